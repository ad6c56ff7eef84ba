/-! ===== the pool tables are the Statement's words ===== -/
def gtb : List Cond := lw_tbl.filter goodWord
theorem gtb_of {w : Cond} (i : Nat) (h : lw_tbl[i]? = some w) (hg : goodWord w = true) : w ∈ gtb := List.mem_filter.mpr ⟨List.mem_of_getElem? h, hg⟩
theorem gtb_in {w : Cond} (h : w ∈ gtb) : w ∈ lw_tbl := (List.mem_filter.mp h).1
theorem gtb_good {w : Cond} (h : w ∈ gtb) : (w.onTables && w.keeps) = true ∨ ∃ ty, w = .arrayClass ty := good_of_word (List.mem_filter.mp h).2
/-- the words that are kept another way -/
def isNw (w : Cond) : Bool := match w with
  | .fieldLinkNest .. => true
  | .methodLinkNest .. => true
  | .castable .. => true
  | .declares _ => true
  | _ => false
def nwb : List Cond := lw_tbl.filter isNw
theorem nwb_of {w : Cond} (i : Nat) (h : lw_tbl[i]? = some w) (hg : isNw w = true) : w ∈ nwb := List.mem_filter.mpr ⟨List.mem_of_getElem? h, hg⟩
def wAt (i : Nat) (w : Cond) : Bool := decide (lw_tbl[i]? = some w)
theorem wAt_g {i : Nat} {w : Cond} (h : wAt i w = true) (hg : goodWord w = true) : w ∈ gtb := gtb_of i (of_decide_eq_true h) hg
theorem wAt_n {i : Nat} {w : Cond} (h : wAt i w = true) (hg : isNw w = true) : w ∈ nwb := nwb_of i (of_decide_eq_true h) hg
def ownOf (key : Nat) : String := pcn.getD (key / 1000) ""
def okF (e : pF) : Bool := e.2.2.1.all fun t => decide (t < 12) && decide (e.2.1 < (cOf t).2.2) && (match e.2.2.2.2.2.1 with
    | none => wAt e.2.2.2.2.1 (.fieldLink (ownOf e.1) (e.1 % 1000) e.2.2.2.1 ((cOf t).2.1 e.2.1).2.1 ((cOf t).2.1 e.2.1).2.2.1)
    | some hst => wAt e.2.2.2.2.1 (.fieldLinkNest (ownOf e.1) (e.1 % 1000) e.2.2.2.1 ((cOf t).2.1 e.2.1).2.1 ((cOf t).2.1 e.2.1).2.2.1 hst)) &&
  (decide (e.2.2.2.1 = ((cOf t).2.1 e.2.1).1) || wAt e.2.2.2.2.2.2 (.sameField e.2.2.2.1 ((cOf t).2.1 e.2.1).1 ((cOf t).2.1 e.2.1).2.1 ((cOf t).2.1 e.2.1).2.2.1))
theorem pfl_ok : ∀ e ∈ pfl, okF e = true := by decide +kernel
/-- the name of a tag's class, as the pool has it -/
def tagC (t : Nat) : String := if t = 26 then "[[I" else pcn.getD t ""
theorem pcls_ok : ∀ e ∈ pcls, wAt e.2.2 (.classLink (ownOf e.1) (e.1 % 1000) (tagC e.2.1)) = true := by decide +kernel
theorem pcst_ok : ∀ e ∈ pcst, wAt e.2.2 (.constant (ownOf e.1) (e.1 % 1000) e.2.1) = true := by decide +kernel
theorem pcst2_ok : ∀ e ∈ pcst2, wAt e.2.2 (.constantLong (ownOf e.1) (e.1 % 1000) e.2.1) = true := by decide +kernel
theorem pci_ok : ∀ t, t < 14 → wAt (pcp.getD t (0, 0)).1 (.initialized (pcn.getD t "")) = true := by decide +kernel
theorem pcm_ok : ∀ t, t < 12 → wAt (pcp.getD t (0, 0)).2 (.instantiable (cOf t).1 (cOf t).2.2) = true ∧ (cOf t).1 = pcn.getD t "" := by decide +kernel
def okM (i : Nat) : Bool := decide (pcn.getD (mO i) "" = (mY i).cls) && decide (mO i < 14) && decide (mL i ≤ 40) && plainName (mY i).cls &&
  decide ((mY i).cls ≠ "java/lang/invoke/MethodHandle") && decide ((mY i).cls ≠ "java/lang/invoke/VarHandle") &&
  (if (pmp.getD i (0, 0, true)).2.2 then wAt (pmp.getD i (0, 0, true)).2.1 (.static (mY i)) else wAt (pmp.getD i (0, 0, true)).2.1 (.instanceMethod (mY i)))
theorem pml_ok : ∀ i, i < 209 → okM i = true := by decide +kernel
set_option maxRecDepth 100000 in
theorem pmc_all : (List.range 209).map (fun i => Cond.code (mY i) (mB i) (mL i) (mR i)) = (pmp.take 209).filterMap (fun q => lw_tbl[q.1]?) := rfl
theorem pmc_ok (i : Nat) (hi : i < 209) : Cond.code (mY i) (mB i) (mL i) (mR i) ∈ gtb := by
  have h : Cond.code (mY i) (mB i) (mL i) (mR i) ∈ (List.range 209).map (fun i => Cond.code (mY i) (mB i) (mL i) (mR i)) := List.mem_map.mpr ⟨i, List.mem_range.mpr hi, rfl⟩
  rw [pmc_all] at h
  obtain ⟨q, -, hq⟩ := List.mem_filterMap.mp h
  exact gtb_of q.1 hq rfl
def pvq (k : Nat) : Nat × Nat × Nat := match pvp.find? (fun e => e.1 == k) with
  | some e => e.2
  | none => (0, 0, 0)
def pcs (n : Nat) (d : String) : Bool := decide ((parseMethodDescriptor d).map (fun d => d.parameters.length) = some n)
/-- a call by the receiver's class: the same class, or another that has or says the method -/
def okV (key : Nat) (x : MethodName) (q : Nat × Nat) : Bool := decide (q.2 < 209) && decide (q.1 < 12) && !(pmp.getD q.2 (0, 0, true)).2.2 &&
  ((decide (x = mY q.2) && decide ((mY q.2).cls = (cOf q.1).1) && wAt (pvq (100 * key + q.1)).1 (.selects (cOf q.1).1 (mY q.2) (mY q.2))) ||
   (wAt (pvq (100 * key + q.1)).1 (.selects (cOf q.1).1 x (mY q.2)) && wAt (pvq (100 * key + q.1)).2.1 (.sameMethod x.cls x.cls x.name x.desc) && (decide (x = mY q.2) || wAt (pvq (100 * key + q.1)).2.2 (.declares x)) && decide (x.cls ≠ "java/lang/invoke/MethodHandle") && decide (x.cls ≠ "java/lang/invoke/VarHandle")))
def okI (e : Nat × Nat × Nat × List (Nat × Nat) × Nat) : Bool := match lw_tbl[e.2.2.2.2]? with
  | some (.methodLink o i x) => decide (o = ownOf e.1) && decide (i = e.1 % 1000) && pcs e.2.2.1 x.desc && (match e.2.1 with
    | 0 => (match e.2.2.2.1 with | q :: _ => decide (q.2 < 209) && decide (x = mY q.2) && (pmp.getD q.2 (0, 0, true)).2.2 | _ => false)
    | 2 => (match e.2.2.2.1 with | q :: _ => decide (q.2 < 209) && decide (x = mY q.2) && !(pmp.getD q.2 (0, 0, true)).2.2 && decide ((mY q.2).name = "<init>") && decide (mR q.2 = none) | _ => false)
    | 4 => decide (x = Lib.objectInit)
    | 5 => e.2.2.2.1.all (okV e.1 x)
    | 6 => decide (x = Lib.Math.abs.name)
    | 7 => decide (x = Lib.Math.max.name)
    | 8 => decide (x = Lib.Math.min.name)
    | _ => false)
  | some (.methodLinkNest o i x _) => decide (o = ownOf e.1) && decide (i = e.1 % 1000) && pcs e.2.2.1 x.desc && (match e.2.1 with
    | 1 => (match e.2.2.2.1 with | q :: _ => decide (q.2 < 209) && decide (x = mY q.2) && (pmp.getD q.2 (0, 0, true)).2.2 | _ => false)
    | 3 => (match e.2.2.2.1 with | q :: _ => decide (q.2 < 209) && decide (x = mY q.2) && !(pmp.getD q.2 (0, 0, true)).2.2 && decide ((mY q.2).name = "<init>") && decide (mR q.2 = none) | _ => false)
    | _ => false)
  | _ => false
theorem pin_ok : ∀ e ∈ pin, okI e = true := by decide +kernel
/-- the JDK's own -/
theorem jdk_ok : wAt 74 (.initialized "java/lang/Math") = true ∧ wAt 87 (.instanceMethod Lib.objectInit) = true ∧ wAt 88 (.code Lib.objectInit ⟨#[0xb1]⟩ 1 none) = true ∧ wAt 461 (.static Lib.Math.max.name) = true ∧ wAt 462 (.code Lib.Math.max.name Lib.Math.max.code 2 (some .int)) = true ∧ wAt 587 (.static Lib.Math.abs.name) = true ∧ wAt 588 (.code Lib.Math.abs.name Lib.Math.abs.code 1 (some .int)) = true ∧ wAt 761 (.static Lib.Math.min.name) = true ∧ wAt 762 (.code Lib.Math.min.name Lib.Math.min.code 2 (some .int)) = true := by decide +kernel
