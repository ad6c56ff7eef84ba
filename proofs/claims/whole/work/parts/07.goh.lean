/-! ===== a step of the small machine is steps of the machine: cells ===== -/
section GOH
variable {p : Program} {l : Launch} {e : Env} {R : Room} {s : State} {m : MethodId} {args : Array Value} {below : List Frame} {meth : Method} {c : Code} {Q : State → Prop} {D : va_G} {dA : Nat → ClassId} {bs b : Nat} {scr : Cell} {mi pc pc' len cells slots : Nat} {L L' : Lc} {st st' : List Value} {h h' : Hp}
theorem ws_all : ∀ t, t < 12 → (u_ws (cOf t).1 (cOf t).2.1 (cOf t).2.2).all (fun w => decide (w ∈ lw_tbl) && goodWord w) = true := by decide +kernel
theorem ws_in (t : Nat) (ht : t < 12) : ∀ w ∈ u_ws (cOf t).1 (cOf t).2.1 (cOf t).2.2, w ∈ gtb := by
  intro w hw
  have h1 := List.all_eq_true.mp (ws_all t ht) w hw
  simp only [Bool.and_eq_true, decide_eq_true_eq] at h1
  exact List.mem_filter.mpr ⟨h1.1, h1.2⟩
theorem pty_ok (t : Nat) (ht : t < 12) : ∀ k, k < (cOf t).2.2 → parseFieldDescriptor ((cOf t).2.1 k).2.2.1 = some (pty t k) := by
  revert t
  decide +kernel
theorem pnm_ok (t : Nat) (ht : t < 12) : ∀ a, a < (cOf t).2.2 → ∀ b, b < (cOf t).2.2 → a ≠ b → ((cOf t).2.1 a).2.1 ≠ ((cOf t).2.1 b).2.1 := by
  revert t
  decide +kernel
/-- what the tables say of a field -/
theorem fld_facts (C : Cx p s m args meth c D dA scr mi) {x : Nat} {f : pF} (hf : fOf (mO mi) x = some f) {t : Nat} (ht : f.2.2.1.contains t = true) :
    t < 12 ∧ f.2.1 < (cOf t).2.2 ∧ (match f.2.2.2.2.2.1 with
      | none => (Cond.fieldLink (pcn.getD (mO mi) "") x f.2.2.2.1 ((cOf t).2.1 f.2.1).2.1 ((cOf t).2.1 f.2.1).2.2.1).before args s = true
      | some hst => (Cond.fieldLinkNest (pcn.getD (mO mi) "") x f.2.2.2.1 ((cOf t).2.1 f.2.1).2.1 ((cOf t).2.1 f.2.1).2.2.1 hst).before args s = true) ∧
    ∀ z, s.fieldFound? ((cOf t).2.1 f.2.1).1 ((cOf t).2.1 f.2.1).2.1 ((cOf t).2.1 f.2.1).2.2.1 = some z → s.fieldFound? f.2.2.2.1 ((cOf t).2.1 f.2.1).2.1 ((cOf t).2.1 f.2.1).2.2.1 = some z := by
  obtain ⟨h1, h2, h3⟩ := key_inv hf
  have h4 := pfl_ok f h1
  unfold okF at h4
  have h5 := List.all_eq_true.mp h4 t (by simpa using ht)
  simp only [Bool.and_eq_true, Bool.or_eq_true, decide_eq_true_eq] at h5
  obtain ⟨⟨⟨a1, a2⟩, a3⟩, a4⟩ := h5
  have hown : ownOf f.1 = pcn.getD (mO mi) "" := by unfold ownOf; rw [h2]
  refine ⟨a1, a2, ?_, ?_⟩
  · rw [hown, h3] at a3
    cases hh : f.2.2.2.2.2.1 with
    | none =>
      rw [hh] at a3
      exact C.2.2.2.2.2.1 _ (wAt_g a3 rfl)
    | some hst =>
      rw [hh] at a3
      exact va_Nw.use rfl (C.2.2.2.2.2.2.1.2.2.1 _ (wAt_n a3 rfl))
  · intro z hz
    rcases a4 with a4 | a4
    · rw [a4]; exact hz
    · exact u_same (C.2.2.2.2.2.1 _ (wAt_g a4 rfl)) z hz
theorem go_get (C : Cx p s m args meth c D dA scr mi) {x : Nat} {f : pF} (hf : fOf (mO mi) x = some f) (hd : decode (mB mi) pc = .ok (.getfield x, 3)) {a : Nat} (ht : f.2.2.1.contains (h.2.1 a).1 = true) (k : Go p l e R s m args below meth c Q D dA bs b scr mi (pc + 3) L (h.1 a f.2.1 :: st) h cells slots) :
    Go p l e R s m args below meth c Q D dA bs b scr mi pc L (.ref a :: st) h cells slots := by
  obtain ⟨f1, f2, f3, f4⟩ := fld_facts C hf ht
  intro H locs ls hR hL hn hq
  obtain ⟨o1, o2, cell, q1, q2, q3, q4⟩ := hR.obj f1
  obtain ⟨hS, hfc, kC, hkC, hkind⟩ := C.2.2.2.2.2.2.1.1 _ f1
  obtain ⟨cf, kf, fi, fd, hi, hsl⟩ := hS _ f2
  have hst := (u_facts hfc hkC (u_lays C.2.2.2.2.2.1 (ws_in _ f1) f2) hi).1
  have hv : cell.slots[fd.slot]? = some (h.1 a f.2.1) := by rw [hsl]; exact q4 _ f2
  cases hh : f.2.2.2.2.2.1 with
  | none =>
    rw [hh] at f3
    exact W.getf C.1 C.2.1 C.2.2.2.2.1 f3 (f4 _ hi) hst q1 (by rw [q3]; exact fun h => by cases h) hv rfl rfl hd (k H locs ls hR hL hn hq)
  | some hst' =>
    rw [hh] at f3
    exact va_Wgetf C.1 C.2.1 C.2.2.2.2.1 f3 (f4 _ hi) hst q1 (by rw [q3]; exact fun h => by cases h) hv rfl rfl hd (k H locs ls hR hL hn hq)
theorem fitv_fits {ty : FieldType} {v : Value} (h : fitv ty v = true) : narrow ty v = v ∧ fits ty v = true := by
  cases ty <;> cases v <;> simp [fitv, isR] at h <;> first | exact ⟨rfl, rfl⟩ | simp [narrow, fits]
theorem go_put (C : Cx p s m args meth c D dA scr mi) {x : Nat} {f : pF} (hf : fOf (mO mi) x = some f) (hd : decode (mB mi) pc = .ok (.putfield x, 3)) (hs : putq mi f L pc 3 st h = some (.inl (pc', L', st', h'))) (k : Go p l e R s m args below meth c Q D dA bs b scr mi pc' L' st' h' cells slots) :
    h'.2 = h.2 ∧ Go p l e R s m args below meth c Q D dA bs b scr mi pc L st h cells slots := by
  unfold putq at hs
  split at hs
  · rename_i v a st0
    split at hs
    · rename_i hc
      obtain ⟨ht, hfit, hfin⟩ := hc
      obtain ⟨rfl, rfl, rfl, rfl⟩ := nxt_inv hs
      refine ⟨rfl, ?_⟩
      obtain ⟨f1, f2, f3, f4⟩ := fld_facts C hf ht
      obtain ⟨g1, g2⟩ := fitv_fits hfit
      intro H locs ls hR hL hn hq
      obtain ⟨o1, o2, cell, q1, q2, q3, q4⟩ := hR.obj f1
      have hKn := C.2.2.2.2.2.2.1.1 _ f1
      obtain ⟨hS, hfc, kC, hkC, hkind⟩ := hKn
      obtain ⟨cf, kf, fi, fd, hi, hsl⟩ := hS _ f2
      have hlays := u_lays C.2.2.2.2.2.1 (ws_in _ f1) f2
      have hst := (u_facts hfc hkC hlays hi).1
      have hd0 := pty_ok _ f1 _ f2
      have hap : ∀ x y, x < (cOf (h.2.1 a).1).2.2 → y < (cOf (h.2.1 a).1).2.2 → x ≠ y → (D.2 (h.2.1 a).1) x ≠ (D.2 (h.2.1 a).1) y := by
        intro x y hx hy hne
        obtain ⟨_, _, _, fa, hia, ea⟩ := hS x hx
        obtain ⟨_, _, _, fb, hib, eb⟩ := hS y hy
        rw [← ea, ← eb]
        refine u_apart (u_lays C.2.2.2.2.2.1 (ws_in _ f1) hx) (u_lays C.2.2.2.2.2.1 (ws_in _ f1) hy) hia hib ?_
        rw [(State.fieldFound?_type hia (pty_ok _ f1 x hx)).1, (State.fieldFound?_type hib (pty_ok _ f1 y hy)).1]
        exact pnm_ok _ f1 x hx y hy hne
      have hslot : fd.slot < cell.slots.size := by rw [hsl]; exact k2_hasslot (q4 _ f2)
      have fin : ∀ H' : Heap, H'[a]? = some (cell.setSlot fd.slot v) → H'.size = H.size → (∀ q, q ≠ a → H'[q]? = H[q]?) → W p l e R s m args below meth c H' (locs ++ [⟨a, fd.slot⟩]) cells slots Q (F0 m (pc + 3) ls st') := by
        intro H' e1 e2 e3
        refine k H' _ ls (hR.put o1 e2 e3 (fun _ => Or.inl ⟨f1, ?_⟩)) hL hn (fun q hq' => ?_)
        · rw [hsl] at e1
          exact ⟨_, e1, q2, q3, t_set q4 hap f2 v⟩
        · rcases List.mem_append.mp hq' with hq' | hq'
          · exact hq q hq'
          · rw [List.mem_singleton.mp hq']; exact o1
      by_cases hfb : ((cOf (h.2.1 a).1).2.1 f.2.1).2.2.2 = true
      · obtain ⟨b1, b2, b3⟩ := hfin hfb
        rw [b2] at f3
        have hlay := C.2.2.2.2.2.1 _ (ws_in _ f1 _ (u_in_lay f2))
        unfold u_lay at hlay
        rw [if_pos hfb] at hlay
        have hcf : m.cls = cf := by
          obtain ⟨_, _, c', _, _, _, -, -, hf', -, -, -, hown2, -⟩ := Cond.laysFinal_spec hlay
          have e1 : c' = cf := by have := hi.symm.trans hf'; simp at this; exact this.1.symm
          rw [b3] at hown2
          rw [← e1]; exact Option.some.inj (C.2.2.2.2.1.symm.trans hown2)
        have h6 := u_fits hfc hkC hkind hlays hi hd0 g1 g2
        exact W.putFinK C.1 C.2.1 C.2.2.2.2.1 f3 (f4 _ hi) hst hcf (C.2.2.2.2.2.2.2.2 b1) (by rw [q2]; exact h6) q1 q3 hslot rfl rfl hd fin
      · have hfb' : ((cOf (h.2.1 a).1).2.1 f.2.1).2.2.2 = false := by simpa using hfb
        have hlay := C.2.2.2.2.2.1 _ (ws_in _ f1 _ (u_in_lay f2))
        unfold u_lay at hlay
        rw [if_neg hfb] at hlay
        have h6 := u_store hfc hkC hkind hlay hi hd0 g1 g2
        cases hh : f.2.2.2.2.2.1 with
        | none =>
          rw [hh] at f3
          exact W.putK C.1 C.2.1 (f := fd) ⟨C.2.2.2.2.1, f3, ⟨_, _, _, f4 _ hi⟩, hst⟩ (by rw [q2]; exact h6) q1 q3 hslot rfl rfl hd fin
        | some hst' =>
          rw [hh] at f3
          exact va_WputK C.1 C.2.1 C.2.2.2.2.1 f3 (f4 _ hi) hst (by rw [q2]; exact h6) q1 q3 hslot rfl rfl hd fin
    · cases hs
  · cases hs
end GOH
