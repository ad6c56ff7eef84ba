/-! ===== what the small machine's cells and locals are on the machine ===== -/
def aNm (t : Nat) : String := match t with
  | 21 => "CostumeStock$Thing"
  | 22 => "CostumeStock$Holder"
  | 23 => "CostumeStock$Actor"
  | 24 => "CostumeStock$Hire"
  | _ => "CostumeStock$Change"
def aTy (t : Nat) : FieldType := if t = 20 then .int else if t = 26 then .array .int else .object (aNm t)
def Cl (D : va_G) (dA : Nat → ClassId) (H : Heap) (a : Nat) (t : Nat × Nat) (f : Nat → Value) : Prop :=
  (t.1 < 12 ∧ t_OB a (D.1 t.1) (cOf t.1).2.2 (D.2 t.1) H f) ∨ (20 ≤ t.1 ∧ t.1 ≤ 26 ∧ H[a]? = some (arrV (dA t.1) t.2 f))
theorem Cl.kept {D : va_G} {dA : Nat → ClassId} {H H1 : Heap} {a : Nat} {t : Nat × Nat} {f : Nat → Value} (h : Cl D dA H a t f) (e : H1[a]? = H[a]?) : Cl D dA H1 a t f := by
  rcases h with ⟨h1, h2⟩ | ⟨h1, h2, h3⟩
  · exact Or.inl ⟨h1, h2.kept e⟩
  · exact Or.inr ⟨h1, h2, by rw [e]; exact h3⟩
/-- the cells of the small machine stand on the heap from bs on; the script at b -/
def Rl (D : va_G) (dA : Nat → ClassId) (bs b : Nat) (scr : Cell) (h : Hp) (H : Heap) : Prop :=
  H.size = h.2.2.1 ∧ bs ≤ h.2.2.1 ∧ b < bs ∧ H[b]? = some scr ∧
  ∀ a : Nat, (h.2.1 a).1 ≤ 30 → ((h.2.1 a).1 ≤ 26 ∧ bs ≤ a ∧ a < h.2.2.1 ∧ Cl D dA H a (h.2.1 a) (h.1 a)) ∨ ((h.2.1 a).1 = 30 ∧ a = b ∧ (h.2.1 a).2 = scr.slots.size ∧ ∀ j, j < scr.slots.size → scr.slots[j]? = some (h.1 a j))
theorem Rl.obj {D : va_G} {dA : Nat → ClassId} {bs b : Nat} {scr : Cell} {h : Hp} {H : Heap} (r : Rl D dA bs b scr h H) {a : Nat} (ht : (h.2.1 a).1 < 12) : bs ≤ a ∧ a < h.2.2.1 ∧ t_OB a (D.1 (h.2.1 a).1) (cOf (h.2.1 a).1).2.2 (D.2 (h.2.1 a).1) H (h.1 a) := by
  rcases r.2.2.2.2 a (by omega) with ⟨-, h1, h2, h3⟩ | ⟨h1, -⟩
  · rcases h3 with ⟨-, h4⟩ | ⟨h4, -⟩
    · exact ⟨h1, h2, h4⟩
    · omega
  · omega
theorem Rl.arr {D : va_G} {dA : Nat → ClassId} {bs b : Nat} {scr : Cell} {h : Hp} {H : Heap} (r : Rl D dA bs b scr h H) {a : Nat} (h0 : 20 ≤ (h.2.1 a).1) (ht : (h.2.1 a).1 ≤ 26) : bs ≤ a ∧ a < h.2.2.1 ∧ H[a]? = some (arrV (dA (h.2.1 a).1) (h.2.1 a).2 (h.1 a)) := by
  rcases r.2.2.2.2 a (by omega) with ⟨-, h1, h2, h3⟩ | ⟨h1, -⟩
  · rcases h3 with ⟨h4, -⟩ | ⟨-, -, h4⟩
    · omega
    · exact ⟨h1, h2, h4⟩
  · omega
theorem Rl.scr {D : va_G} {dA : Nat → ClassId} {bs b : Nat} {scr : Cell} {h : Hp} {H : Heap} (r : Rl D dA bs b scr h H) {a : Nat} (ht : 27 ≤ (h.2.1 a).1) (h9 : (h.2.1 a).1 ≤ 30) : a = b ∧ H[a]? = some scr ∧ (h.2.1 a).2 = scr.slots.size ∧ ∀ j, j < scr.slots.size → scr.slots[j]? = some (h.1 a j) := by
  rcases r.2.2.2.2 a h9 with ⟨h1, -⟩ | ⟨-, h2, h3, h4⟩
  · omega
  · subst h2
    exact ⟨rfl, r.2.2.2.1, h3, h4⟩
/-- one cell is written anew -/
theorem Rl.put {D : va_G} {dA : Nat → ClassId} {bs b : Nat} {scr : Cell} {h : Hp} {H H1 : Heap} (r : Rl D dA bs b scr h H) {a k : Nat} {v : Value} (hb : bs ≤ a) (z : H1.size = H.size) (oq : ∀ q : Nat, q ≠ a → H1[q]? = H[q]?)
    (hc : (h.2.1 a).1 ≤ 26 → Cl D dA H1 a (h.2.1 a) (updV (h.1 a) k v)) : Rl D dA bs b scr (mup h.1 a k v, h.2) H1 := by
  obtain ⟨r1, r2, r3, r4, r5⟩ := r
  refine ⟨z.trans r1, r2, r3, by rw [oq b (by omega)]; exact r4, fun x hx => ?_⟩
  by_cases hxa : x = a
  · subst hxa
    rcases r5 x hx with ⟨h1, h2, h3, h4⟩ | ⟨h1, h2, -⟩
    · refine Or.inl ⟨h1, h2, h3, ?_⟩
      have e : mup h.1 x k v x = updV (h.1 x) k v := by
        funext j
        simp [mup, updV]
      show Cl D dA H1 x (h.2.1 x) (mup h.1 x k v x)
      rw [e]
      exact hc h1
    · omega
  · have e : mup h.1 a k v x = h.1 x := by
      funext j
      simp [mup, hxa]
    rcases r5 x hx with ⟨h1, h2, h3, h4⟩ | h4
    · refine Or.inl ⟨h1, h2, h3, ?_⟩
      show Cl D dA H1 x (h.2.1 x) (mup h.1 a k v x)
      rw [e]
      exact h4.kept (oq x hxa)
    · refine Or.inr ?_
      show (h.2.1 x).1 = 30 ∧ x = b ∧ (h.2.1 x).2 = scr.slots.size ∧ ∀ j, j < scr.slots.size → scr.slots[j]? = some (mup h.1 a k v x j)
      rw [e]
      exact h4
/-- a new cell at the end -/
theorem Rl.push {D : va_G} {dA : Nat → ClassId} {bs b : Nat} {scr : Cell} {h : Hp} {H H1 : Heap} (r : Rl D dA bs b scr h H) {t : Nat × Nat} {f : Nat → Value} {k : Nat} (z : H1.size = h.2.2.1 + 1) (oq : ∀ q : Nat, q < h.2.2.1 → H1[q]? = H[q]?) (ht : t.1 ≤ 26)
    (hc : Cl D dA H1 h.2.2.1 t f) : Rl D dA bs b scr (mnw h.1 h.2.2.1 f, mnw h.2.1 h.2.2.1 t, h.2.2.1 + 1, k) H1 := by
  obtain ⟨r1, r2, r3, r4, r5⟩ := r
  refine ⟨z, Nat.le_succ_of_le r2, r3, by rw [oq b (by omega)]; exact r4, fun x hx => ?_⟩
  by_cases hxa : x = h.2.2.1
  · subst hxa
    refine Or.inl ?_
    simp only [mnw, if_true]
    exact ⟨ht, r2, Nat.lt_succ_self _, hc⟩
  · simp only [mnw, hxa, if_false] at hx ⊢
    rcases r5 x hx with ⟨h1, h2, h3, h4⟩ | h4
    · exact Or.inl ⟨h1, h2, Nat.lt_succ_of_lt h3, h4.kept (oq x h3)⟩
    · exact Or.inr h4
/-- the classes as the tables have them -/
def KK (D : va_G) (dA : Nat → ClassId) (scr : Cell) (U : State) : Prop :=
  (∀ t, t < 12 → u_Kn U (cOf t).1 (cOf t).2.1 (cOf t).2.2 (D.1 t) (D.2 t)) ∧
  (∀ t, 20 ≤ t → t ≤ 26 → ArrOfT U (dA t) (aTy t) ∧ va_RA U (dA t) (aTy t)) ∧
  (∀ w ∈ nwb, va_Nw w U) ∧ (∀ q ∈ nocasts, va_Nc (pcn.getD q.1 "") (pcn.getD q.2 "") U) ∧ (∀ t, 21 ≤ t → t ≤ 25 → va_AO (aNm t) U) ∧ (Cond.arrayOver (.array .int)).before #[] U = true ∧ U.isArrayOf scr .int ∧ scr.vm ≠ .unknown
theorem aov_idx {u U : State} (hvm : u.vm.Alike U.vm) (comp : ClassId) : (U.vm.classes.findIdx? fun (x : Class) => match x.kind with | .array component _ => component == comp | _ => false) = (u.vm.classes.findIdx? fun (x : Class) => match x.kind with | .array component _ => component == comp | _ => false) := by
  have e1 := va_idx_bare U.vm comp
  have e2 := va_idx_bare u.vm comp
  rw [hvm.bare_eq] at e1
  exact e1.symm.trans e2
theorem aovA_moved {u U : State} (hvm : u.vm.Alike U.vm) (h : (Cond.arrayOver (.array .int)).before #[] u = true) : (Cond.arrayOver (.array .int)).before #[] U = true := by
  unfold Cond.before Cond.holds at h ⊢
  simp only [Cond.value] at h ⊢
  cases hc : u.vm.findClass (FieldType.array .int).toString with
  | none => rw [hc] at h; simp at h
  | some comp =>
    rw [hc] at h
    rw [hvm.findClass, hc]
    simp only [Option.bind_some] at h ⊢
    cases hi : (u.vm.classes.findIdx? fun (x : Class) => match x.kind with | .array component _ => component == comp | _ => false) with
    | none =>
      exfalso
      have h2 := h
      erw [hi] at h2
      simp at h2
    | some c =>
      have hi' := (aov_idx hvm comp).trans hi
      erw [hi] at h
      erw [hi']
      simp only [Option.bind_some] at h ⊢
      cases hk : u.vm.classes[c]? with
      | none => rw [hk] at h; simp at h
      | some k =>
        obtain ⟨k', hk', he⟩ := hvm.2.2 _ _ hk
        rw [hk] at h
        rw [hk']
        simp only [Option.map_some] at h ⊢
        have hkk : k'.kind = k.kind := by rw [he]
        rw [hkk, hvm.findClass]
        exact h
theorem KK.moved {D : va_G} {dA : Nat → ClassId} {scr : Cell} {s U : State} (hW : s.WarmedH U.vm) (h : KK D dA scr s) : KK D dA scr U := by
  obtain ⟨h1, h2, h3, h4, h5, h6, h7, h8⟩ := h
  refine ⟨fun t ht => u_Kn_moved hW.alike (h1 t ht), fun t a b => ⟨fun n z => State.isArrayOf_alike hW.alike ((h2 t a b).1 n z), va_RA.moved hW.alike (h2 t a b).2⟩, fun w hw => ?_, fun q hq => va_Nc.moved hW.alike (h4 q hq), fun t a b => va_AO.moved hW.alike (h5 t a b), aovA_moved hW.alike h6, State.isArrayOf_alike hW.alike h7, h8⟩
  have hz := h3 w hw
  have hg := (List.mem_filter.mp hw).2
  cases w <;> first | exact va_Nw.warmF hW hz | exact va_Nw.warmM hW hz | exact va_Nw.warmC hW hz | exact va_Nw.warmD hW hz | (exact absurd hg (by simp [isNw]))
/-! locals -/
def prs (L : Lc) : List (Nat × Value) := (List.range L.length).filterMap (fun i => match L[i]? with
  | some (some v) => some (i, v)
  | _ => none)
theorem prs_mem {L : Lc} {q : Nat × Value} : q ∈ prs L ↔ L[q.1]? = some (some q.2) := by
  unfold prs
  rw [List.mem_filterMap]
  constructor
  · rintro ⟨i, -, hi⟩
    split at hi
    · rename_i v hv
      cases hi
      exact hv
    · cases hi
  · intro h
    refine ⟨q.1, List.mem_range.mpr (List.getElem?_eq_some_iff.mp h).1, ?_⟩
    rw [h]
def Ls (ls : Array Slot) (L : Lc) : Prop := lv_has ls L.length (prs L)
theorem Ls.get {ls : Array Slot} {L : Lc} (h : Ls ls L) {i : Nat} {v : Value} (hv : L[i]? = some (some v)) : ls[i]? = some (.val v) := h.2.2 (i, v) (prs_mem.mpr hv)
theorem stL_len (L : Lc) (i : Nat) (v : Value) : (stL L i v).length = L.length := by
  unfold stL
  cases i <;> simp
theorem stL_get (L : Lc) (i : Nat) (v : Value) (k : Nat) {w : Value} (h : (stL L i v)[k]? = some (some w)) : (k = i ∧ w = v) ∨ (k ≠ i ∧ L[k]? = some (some w) ∧ (k + 1 = i → cat1 w = true)) := by
  unfold stL at h
  cases i with
  | zero =>
    by_cases hk : k = 0
    · subst hk
      left
      by_cases hl : 0 < L.length
      · simp [List.getElem?_set, hl] at h
        exact ⟨rfl, h.symm⟩
      · simp [List.getElem?_set, hl] at h
    · right
      simp only [List.getElem?_set, Ne.symm hk, if_false] at h
      exact ⟨hk, h, fun q => absurd q (by omega)⟩
  | succ j =>
    by_cases hk : k = j + 1
    · subst hk
      left
      by_cases hl : j + 1 < L.length
      · simp [List.getElem?_set, hl] at h
        exact ⟨rfl, h.symm⟩
      · simp [List.getElem?_set, hl] at h
    · right
      refine ⟨hk, ?_⟩
      simp only [List.getElem?_set, Ne.symm hk, if_false] at h
      rw [List.getElem?_modify] at h
      by_cases hj : j = k
      · subst hj
        simp only [if_true] at h
        cases hL : L[j]? with
        | none => rw [hL] at h; simp at h
        | some x =>
          rw [hL] at h
          simp at h
          cases x with
          | none => simp [clr] at h
          | some u =>
            cases u <;> simp [clr] at h <;> subst h <;> exact ⟨rfl, fun _ => rfl⟩
      · simp only [hj, if_false] at h
        refine ⟨?_, fun q => absurd q (by omega)⟩
        cases hL : L[k]? with
        | none => rw [hL] at h; simp at h
        | some x => rw [hL] at h; simpa using h
theorem cat1_1 {v : Value} (h : cat1 v = true) : v.category = 1 := by
  cases v <;> first | rfl | (simp [cat1] at h)
theorem isR_cat1 {v : Value} (h : isR v = true) : cat1 v = true := by
  cases v <;> first | rfl | (simp [isR] at h)
/-- storing a value of one slot -/
theorem Ls.stored {ls' : Array Slot} {L : Lc} {i : Nat} {v : Value} (hv : cat1 v = true) (h' : lv_has ls' L.length ((i, v) :: (prs L).filter (fun q => !(q.1 == i) && !(q.1 + 1 == i && q.2.category == 2)))) : Ls ls' (stL L i v) := by
  refine ⟨by rw [stL_len]; exact h'.1, h'.2.1, fun q hq => h'.2.2 q ?_⟩
  rcases stL_get L i v q.1 (prs_mem.mp hq) with ⟨h1, h2⟩ | ⟨h1, h2, h3⟩
  · have e : q = (i, v) := by rw [← h1, ← h2]
    rw [e]
    exact List.mem_cons_self
  · refine List.mem_cons_of_mem _ (List.mem_filter.mpr ⟨prs_mem.mpr h2, ?_⟩)
    by_cases hk : q.1 + 1 = i
    · have := cat1_1 (h3 hk)
      simp [h1, this]
    · simp [h1, hk]
theorem Ls.stored2 {ls' : Array Slot} {L : Lc} {i : Nat} {v : Value} (hi : i + 1 < L.length) (h' : lv_has ls' L.length ((i, v) :: (prs L).filter (fun q => !(q.1 == i) && (!(q.1 == i + 1) && !(q.1 + 1 == i && q.2.category == 2))))) : Ls ls' ((stL L i v).set (i + 1) none) := by
  refine ⟨by rw [List.length_set, stL_len]; exact h'.1, h'.2.1, fun q hq => h'.2.2 q ?_⟩
  have hq' := prs_mem.mp hq
  rw [List.getElem?_set] at hq'
  by_cases hn : i + 1 = q.1
  · rw [if_pos hn, stL_len, if_pos hi] at hq'
    cases hq'
  · rw [if_neg hn] at hq'
    rcases stL_get L i v q.1 hq' with ⟨h1, h2⟩ | ⟨h1, h2, h3⟩
    · have e : q = (i, v) := by rw [← h1, ← h2]
      rw [e]
      exact List.mem_cons_self
    · refine List.mem_cons_of_mem _ (List.mem_filter.mpr ⟨prs_mem.mpr h2, ?_⟩)
      by_cases hk : q.1 + 1 = i
      · have := cat1_1 (h3 hk)
        simp [h1, this, Ne.symm hn]
      · simp [h1, hk, Ne.symm hn]
theorem sl_cat1 {vs : List Value} (h : vs.all cat1 = true) : lg_sl vs = vs.map Slot.val := by
  induction vs with
  | nil => rfl
  | cons v t ih =>
    simp only [List.all_cons, Bool.and_eq_true] at h
    have e := cat1_1 h.1
    simp only [lg_sl, List.flatMap_cons, List.map_cons] at ih ⊢
    rw [ih h.2]
    simp [e]
theorem args_cat1 {vs : List Value} (h : vs.all cat1 = true) : ∀ (i k : Nat) (v : Value), vs[k]? = some v → (i + k, v) ∈ lv_args i vs := by
  induction vs with
  | nil => intro i k v hv; simp at hv
  | cons w t ih =>
    simp only [List.all_cons, Bool.and_eq_true] at h
    have e := cat1_1 h.1
    intro i k v hv
    cases k with
    | zero =>
      simp at hv
      subst hv
      exact List.mem_cons_self
    | succ k =>
      simp at hv
      have := ih h.2 (i + 1) k v hv
      simp only [lv_args, e]
      refine List.mem_cons_of_mem _ ?_
      rw [show i + (k + 1) = i + 1 + k by omega]
      simpa using this
/-- the locals with which a method begins -/
theorem Ls.entry {vs : List Value} (h : vs.all cat1 = true) {n : Nat} (hn : vs.length ≤ n) : Ls ((lg_sl vs ++ List.replicate (n - (lg_sl vs).length) Slot.unset).toArray) (vs.map some ++ List.replicate (n - vs.length) none) := by
  have hl : (lg_sl vs).length = vs.length := by rw [sl_cat1 h, List.length_map]
  have h0 := lv_entry vs (n := n) (by omega)
  have hlen : (vs.map some ++ List.replicate (n - vs.length) none : Lc).length = n := by simp; omega
  refine ⟨by rw [hlen]; exact h0.1, h0.2.1, fun q hq => h0.2.2 q ?_⟩
  have hq' := prs_mem.mp hq
  by_cases hk : q.1 < vs.length
  · rw [List.getElem?_append_left (by simpa using hk), List.getElem?_map] at hq'
    cases hv : vs[q.1]? with
    | none => rw [hv] at hq'; simp at hq'
    | some v =>
      rw [hv] at hq'
      simp at hq'
      have := args_cat1 h 0 q.1 v hv
      rw [Nat.zero_add, hq'] at this
      exact this
  · rw [List.getElem?_append_right (by simpa using Nat.not_lt.mp hk)] at hq'
    rw [List.getElem?_replicate] at hq'
    split at hq' <;> simp at hq'
