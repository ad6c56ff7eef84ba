/-! ===== the small machine, step by step: what the x-rows stand on ===== -/
def isTh (t : Nat) : Bool := ([1, 8, 9] : List Nat).contains t
section FIN
variable {d mi pc len : Nat} {L : Lc} {st : List Value} {h : Hp}
theorem clr_i {x : Int32} : clr (some (.int x)) = some (.int x) := rfl
theorem clr_r {a : Nat} : clr (some (.ref a)) = some (.ref a) := rfl
theorem clr_n : clr (some .null) = some .null := rfl
theorem clr_0 : clr none = none := rfl
theorem clr_q {a : Option Nat} : clr (some (va_rf a)) = some (va_rf a) := by cases a <;> rfl
theorem clr_l {x : Int64} : clr (some (.long x)) = none := rfl
theorem cat1_i {x : Int32} : cat1 (.int x) = true := rfl
theorem cat1_r {a : Nat} : cat1 (.ref a) = true := rfl
theorem isR_r {a : Nat} : isR (.ref a) = true := rfl
theorem isR_n : isR .null = true := rfl
theorem isR_q {a : Option Nat} : isR (va_rf a) = true := by cases a <;> rfl
theorem rf_s {a : Nat} : va_rf (some a) = .ref a := rfl
theorem rf_n : va_rf none = .null := rfl
theorem fin_brq {X : Option Ou} {c : Prop} [Decidable c] {off : Int} {tgt : Nat} (hs : X = brq c off L pc len st h) (ht : (pc : Int) + off = (tgt : Int)) : fin ex d mi X = if c then ex d mi tgt L st h else ex d mi (pc + len) L st h := by
  subst hs
  unfold brq
  rw [if_neg (by omega)]
  split
  · have e : ((pc : Int) + off).toNat = tgt := by omega
    simp only [fin, e]
  · rfl
theorem fin_acmp {v w : Value} {b : Bool} {X : Option Ou} {off : Int} {tgt : Nat} (hs : X = acmpq b off L pc len (w :: v :: st) h) (hv : isR v = true) (hw : isR w = true) (ht : (pc : Int) + off = (tgt : Int)) : fin ex d mi X = if (if b = true then v = w else ¬ v = w) then ex d mi tgt L st h else ex d mi (pc + len) L st h := by
  subst hs
  simp only [acmpq, hv, hw, and_self, if_true]
  cases b
  · simp only [Bool.false_eq_true, if_false]
    exact fin_brq rfl ht
  · simp only [if_true]
    exact fin_brq rfl ht
theorem fin_acmpE {v w : Value} {X : Option Ou} {off : Int} {tgt : Nat} (hs : X = acmpq true off L pc len (w :: v :: st) h) (hv : isR v = true) (hw : isR w = true) (ht : (pc : Int) + off = (tgt : Int)) : fin ex d mi X = if v = w then ex d mi tgt L st h else ex d mi (pc + len) L st h := by
  rw [fin_acmp hs hv hw ht]
  simp
theorem fin_acmpN {v w : Value} {X : Option Ou} {off : Int} {tgt : Nat} (hs : X = acmpq false off L pc len (w :: v :: st) h) (hv : isR v = true) (hw : isR w = true) (ht : (pc : Int) + off = (tgt : Int)) : fin ex d mi X = if ¬ v = w then ex d mi tgt L st h else ex d mi (pc + len) L st h := by
  rw [fin_acmp hs hv hw ht]
  simp
theorem tg1 {t : Nat} {l : List Nat} {n : Nat} (ht : n = t) (hc : l.contains t = true) : l.contains n = true := by rw [ht]; exact hc
theorem fin_get {x : Nat} {e : pF} (hf : fOf (mO mi) x = some e) {a : Nat} (ht : e.2.2.1.contains (h.2.1 a).1 = true) : fin ex d mi (stp mi pc (.getfield x) 3 L (.ref a :: st) h) = ex d mi (pc + 3) L (h.1 a e.2.1 :: st) h := by
  simp only [stp, lnq, if_true, hf, getq, ht, nxt, fin]
theorem fin_put {x t : Nat} {e : pF} (hf : fOf (mO mi) x = some e) {a : Nat} {v : Value} (ht : (h.2.1 a).1 = t) (hc : e.2.2.1.contains t = true) (hv : fitv (pty t e.2.1) v = true) (hi : ((cOf t).2.1 e.2.1).2.2.2 = true → isInit mi = true ∧ e.2.2.2.2.2.1 = none ∧ ((cOf t).2.1 e.2.1).1 = pcn.getD (mO mi) "") :
    fin ex d mi (stp mi pc (.putfield x) 3 L (v :: .ref a :: st) h) = ex d mi (pc + 3) L st (mup h.1 a e.2.1 v, h.2) := by
  simp only [stp, lnq, if_true, hf, putq]
  rw [if_pos (by rw [ht]; exact ⟨hc, hv, hi⟩)]
  rfl
theorem fin_putT {x : Nat} {e : pF} (hf : fOf (mO mi) x = some e) {a : Nat} {v : Value} (ht : isTh (h.2.1 a).1 = true) (hc : ∀ t ∈ ([1, 8, 9] : List Nat), e.2.2.1.contains t = true ∧ fitv (pty t e.2.1) v = true ∧ (((cOf t).2.1 e.2.1).2.2.2 = true → isInit mi = true ∧ e.2.2.2.2.2.1 = none ∧ ((cOf t).2.1 e.2.1).1 = pcn.getD (mO mi) "")) :
    fin ex d mi (stp mi pc (.putfield x) 3 L (v :: .ref a :: st) h) = ex d mi (pc + 3) L st (mup h.1 a e.2.1 v, h.2) := by
  obtain ⟨c1, c2, c3⟩ := hc (h.2.1 a).1 (List.mem_of_elem_eq_true ht)
  exact fin_put hf rfl c1 c2 c3
theorem allT {P : Nat → Prop} (h1 : P 1) (h8 : P 8) (h9 : P 9) : ∀ t ∈ ([1, 8, 9] : List Nat), P t := by
  intro t ht
  simp only [List.mem_cons, List.not_mem_nil, or_false] at ht
  rcases ht with rfl | rfl | rfl <;> assumption
theorem nI_0le {j : Nat} (hb : j < 2147483648) : (0 : Int32) ≤ nI j := nI_pos' hb
theorem fin_alen {a : Nat} (ht : 20 ≤ (h.2.1 a).1 ∧ (h.2.1 a).1 ≤ 30) : fin ex d mi (stp mi pc .arraylength 1 L (.ref a :: st) h) = ex d mi (pc + 1) L (.int (nI (h.2.1 a).2) :: st) h := by
  simp only [stp, lnq, if_true]
  rw [if_pos ht]
  rfl
theorem fin_iaload {a j : Nat} (ht : (h.2.1 a).1 = 20 ∨ (h.2.1 a).1 = 30) (hj : j < (h.2.1 a).2) (hb : j < 2147483648) : fin ex d mi (stp mi pc .iaload 1 L (.int (nI j) :: .ref a :: st) h) = ex d mi (pc + 1) L (h.1 a j :: st) h := by
  simp only [stp, lnq, if_true]
  rw [if_pos ⟨ht, nI_0le hb, by rw [nI_clamp hb]; exact hj⟩, nI_clamp hb]
  rfl
theorem fin_aaload {a j : Nat} (ht : 21 ≤ (h.2.1 a).1 ∧ (h.2.1 a).1 ≤ 26) (hj : j < (h.2.1 a).2) (hb : j < 2147483648) : fin ex d mi (stp mi pc .aaload 1 L (.int (nI j) :: .ref a :: st) h) = ex d mi (pc + 1) L (h.1 a j :: st) h := by
  simp only [stp, lnq, if_true]
  rw [if_pos ⟨ht.1, ht.2, nI_0le hb, by rw [nI_clamp hb]; exact hj⟩, nI_clamp hb]
  rfl
theorem fin_iastore {a j : Nat} {x : Int32} (ht : (h.2.1 a).1 = 20) (hj : j < (h.2.1 a).2) (hb : j < 2147483648) : fin ex d mi (stp mi pc .iastore 1 L (.int x :: .int (nI j) :: .ref a :: st) h) = ex d mi (pc + 1) L st (mup h.1 a j (.int x), h.2) := by
  simp only [stp, lnq, if_true]
  rw [if_pos ⟨ht, nI_0le hb, by rw [nI_clamp hb]; exact hj⟩, nI_clamp hb]
  rfl
theorem fin_aastore {a j v : Nat} (ht : 21 ≤ (h.2.1 a).1 ∧ (h.2.1 a).1 ≤ 25) (hc : casts.contains ((h.2.1 v).1, elT (h.2.1 a).1) = true) (hj : j < (h.2.1 a).2) (hb : j < 2147483648) : fin ex d mi (stp mi pc .aastore 1 L (.ref v :: .int (nI j) :: .ref a :: st) h) = ex d mi (pc + 1) L st (mup h.1 a j (.ref v), h.2) := by
  simp only [stp, lnq, if_true]
  rw [if_pos ⟨ht.1, ht.2, hc, nI_0le hb, by rw [nI_clamp hb]; exact hj⟩, nI_clamp hb]
  rfl
theorem fin_aastoreN {a j : Nat} (ht : 21 ≤ (h.2.1 a).1 ∧ (h.2.1 a).1 ≤ 25) (hj : j < (h.2.1 a).2) (hb : j < 2147483648) : fin ex d mi (stp mi pc .aastore 1 L (.null :: .int (nI j) :: .ref a :: st) h) = ex d mi (pc + 1) L st (mup h.1 a j .null, h.2) := by
  simp only [stp, lnq, if_true]
  rw [if_pos ⟨ht.1, ht.2, nI_0le hb, by rw [nI_clamp hb]; exact hj⟩, nI_clamp hb]
  rfl
theorem fin_nwa {n : Nat} (hn : n ≤ 10000) : fin ex d mi (stp mi pc (.newarray .int) 2 L (.int (nI n) :: st) h) = ex d mi (pc + 2) L (.ref h.2.2.1 :: st) (mnw h.1 h.2.2.1 (fun _ => .int 0), mnw h.2.1 h.2.2.1 (20, n), h.2.2.1 + 1, h.2.2.2 + n) := by
  simp only [stp, lnq, if_true, nwaq]
  rw [if_neg (nI_pos (by omega)), nI_clamp (by omega)]
  unfold arrq
  rw [if_pos hn]
  rfl
theorem fin_anw {x n t : Nat} {e : Nat × Nat × Nat} (hf : kOf (mO mi) x = some e) (he : anwT e.2.1 = t) (ht : ¬ t = 0) (hn : n ≤ 10000) : fin ex d mi (stp mi pc (.anewarray x) 3 L (.int (nI n) :: st) h) = ex d mi (pc + 3) L (.ref h.2.2.1 :: st) (mnw h.1 h.2.2.1 (fun _ => .null), mnw h.2.1 h.2.2.1 (t, n), h.2.2.1 + 1, h.2.2.2 + n) := by
  simp only [stp, lnq, if_true, hf, anwq]
  rw [if_neg (by rw [he]; rintro (q | q); exact nI_pos (by omega) q; exact ht q), nI_clamp (by omega), he]
  unfold arrq
  rw [if_pos hn]
  rfl
theorem fin_mna {x n k : Nat} {e : Nat × Nat × Nat} (hf : kOf (mO mi) x = some e) (he : e.2.1 = 26) (hn : n ≤ 1000) (hk : k ≤ 1000) : fin ex d mi (stp mi pc (.multianewarray x 2) 4 L (.int (nI k) :: .int (nI n) :: st) h) = ex d mi (pc + 4) L (.ref h.2.2.1 :: st) (fun x => if x = h.2.2.1 then (fun j => if j < n then .ref (h.2.2.1 + 1 + j) else .null) else if h.2.2.1 < x ∧ x ≤ h.2.2.1 + n then (fun _ => .int 0) else h.1 x, fun x => if x = h.2.2.1 then (26, n) else if h.2.2.1 < x ∧ x ≤ h.2.2.1 + n then (20, k) else h.2.1 x, h.2.2.1 + 1 + n, h.2.2.2 + n + n * k) := by
  simp only [stp, lnq, if_true, hf, mnaq]
  rw [if_pos ⟨trivial, he, nI_pos (by omega), nI_pos (by omega)⟩, nI_clamp (by omega), nI_clamp (by omega)]
  unfold arr2q
  rw [if_pos ⟨hn, hk⟩]
  rfl
theorem fin_ckc {x t : Nat} {e : Nat × Nat × Nat} (hf : kOf (mO mi) x = some e) (he : e.2.1 = t) {a : Nat} (ht : casts.contains ((h.2.1 a).1, t) = true) : fin ex d mi (stp mi pc (.checkcast x) 3 L (.ref a :: st) h) = ex d mi (pc + 3) L (.ref a :: st) h := by
  simp only [stp, lnq, if_true, hf, ckcq, he]
  rw [if_pos ht]
  rfl
theorem fin_ins {x t : Nat} {e : Nat × Nat × Nat} (hf : kOf (mO mi) x = some e) (he : e.2.1 = t) {a : Nat} (ht : casts.contains ((h.2.1 a).1, t) = true) : fin ex d mi (stp mi pc (.instanceof x) 3 L (.ref a :: st) h) = ex d mi (pc + 3) L (.int (nI 1) :: st) h := by
  simp only [stp, lnq, if_true, hf, insq, he]
  rw [if_pos ht]
  rfl
theorem fin_insn {x : Nat} {e : Nat × Nat × Nat} (hf : kOf (mO mi) x = some e) : fin ex d mi (stp mi pc (.instanceof x) 3 L (.null :: st) h) = ex d mi (pc + 3) L (.int (nI 0) :: st) h := by
  simp only [stp, lnq, if_true, hf, insq]
  rfl
theorem casts_no {a t : Nat} (h : nocasts.contains (a, t) = true) : ¬ casts.contains (a, t) = true := by
  have key : ∀ q ∈ nocasts, ¬ casts.contains q = true := by decide +kernel
  exact key _ (List.mem_of_elem_eq_true h)
theorem fin_inso {x t : Nat} {e : Nat × Nat × Nat} (hf : kOf (mO mi) x = some e) (he : e.2.1 = t) {a : Nat} (ht : nocasts.contains ((h.2.1 a).1, t) = true) : fin ex d mi (stp mi pc (.instanceof x) 3 L (.ref a :: st) h) = ex d mi (pc + 3) L (.int (nI 0) :: st) h := by
  simp only [stp, lnq, if_true, hf, insq, he]
  rw [if_neg (casts_no ht), if_pos ht]
  rfl
theorem fin_new {x t : Nat} {e : Nat × Nat × Nat} (hf : kOf (mO mi) x = some e) (he : e.2.1 = t) (ht : t < 12) : fin ex d mi (stp mi pc (.new x) 3 L st h) = ex d mi (pc + 3) L (.ref h.2.2.1 :: st) (mnw h.1 h.2.2.1 (fun k => dfv (pty t k)), mnw h.2.1 h.2.2.1 (t, (cOf t).2.2), h.2.2.1 + 1, h.2.2.2 + (cOf t).2.2) := by
  simp only [stp, lnq, if_true, hf, he]
  rw [if_pos ht]
  rfl
theorem fin_retb {x : Int32} (hr : mR mi = some .boolean) (hx : x = 0 ∨ x = 1) : fin ex d mi (stp mi pc .ireturn 1 L [.int x] h) = some (some (.int x), h) := by
  simp only [stp, lnq, if_true, retq]
  rw [if_pos (Or.inr ⟨hr, hx⟩)]
  rfl
theorem fin_div {x y : Int32} (hy : ¬ y = 0) : fin ex d mi (stp mi pc .idiv 1 L (.int y :: .int x :: st) h) = ex d mi (pc + 1) L (.int (x / y) :: st) h := by
  simp only [stp, lnq, if_true]
  rw [if_neg hy]
  rfl
theorem fin_rem {x y : Int32} (hy : ¬ y = 0) : fin ex d mi (stp mi pc .irem 1 L (.int y :: .int x :: st) h) = ex d mi (pc + 1) L (.int (x - (x / y) * y) :: st) h := by
  simp only [stp, lnq, if_true]
  rw [if_neg hy]
  rfl
theorem fin_ldc {x : Nat} {e : Nat × Int32 × Nat} (hf : sOf (mO mi) x = some e) : fin ex d mi (stp mi pc (.ldc x) 2 L st h) = ex d mi (pc + 2) L (.int e.2.1 :: st) h := by
  simp only [stp, lnq, if_true, hf]
  rfl
theorem fin_ldcw {x : Nat} {e : Nat × Int32 × Nat} (hf : sOf (mO mi) x = some e) : fin ex d mi (stp mi pc (.ldc_w x) 3 L st h) = ex d mi (pc + 3) L (.int e.2.1 :: st) h := by
  simp only [stp, lnq, if_true, hf]
  rfl
theorem fin_ldc2 {x : Nat} {e : Nat × Int64 × Nat} (hf : s2Of (mO mi) x = some e) : fin ex d mi (stp mi pc (.ldc2_w x) 3 L st h) = ex d mi (pc + 3) L (.long e.2.1 :: st) h := by
  simp only [stp, lnq, if_true, hf]
  rfl
theorem fin_call {c : Nat} {vs : List Value} {X : Option Ou} (hX : X = callq c vs L pc 3 st h) (ha : vs.all cat1 = true) (hl : st.length ≤ 4) (hm : vs.length ≤ mL c) : fin ex (d + 1) mi X = bnd (ex d c 0 (ent c vs) [] h) (fun v h' => ex (d + 1) mi (pc + 3) L (v.toList ++ st) h') := by
  subst hX
  unfold callq
  rw [if_pos ⟨ha, hl, hm⟩]
  rfl
theorem fin_st {x c k kd n P t : Nat} {E : List (Nat × Nat)} (hf : iOf (mO mi) x = some (k, kd, n, (t, c) :: E, P)) (hk : kd = 0 ∨ kd = 1) (hn : n ≤ st.length) (ha : ((st.take n).reverse).all cat1 = true) (hl : (st.drop n).length ≤ 4) (hm : ((st.take n).reverse).length ≤ mL c) :
    fin ex (d + 1) mi (stp mi pc (.invokestatic x) 3 L st h) = bnd (ex d c 0 (ent c (st.take n).reverse) [] h) (fun v h' => ex (d + 1) mi (pc + 3) L (v.toList ++ st.drop n) h') := by
  refine fin_call ?_ ha hl hm
  rcases hk with rfl | rfl <;> simp only [stp, lnq, if_true, invq, hf] <;> rw [if_pos hn]
theorem fin_sp {x c k kd n P t a : Nat} {r : List Value} {E : List (Nat × Nat)} (hf : iOf (mO mi) x = some (k, kd, n, (t, c) :: E, P)) (hk : kd = 2 ∨ kd = 3) (hd : st.drop n = .ref a :: r) (ha : (Value.ref a :: (st.take n).reverse).all cat1 = true) (hl : r.length ≤ 4) (hm : (Value.ref a :: (st.take n).reverse).length ≤ mL c) :
    fin ex (d + 1) mi (stp mi pc (.invokespecial x) 3 L st h) = bnd (ex d c 0 (ent c (.ref a :: (st.take n).reverse)) [] h) (fun v h' => ex (d + 1) mi (pc + 3) L (v.toList ++ r) h') := by
  refine fin_call ?_ ha hl hm
  rcases hk with rfl | rfl <;> simp only [stp, lnq, if_true, invq, hf, Nat.one_ne_zero, if_false, hd]
theorem fin_vi {x c k n P t a : Nat} {r : List Value} {E : List (Nat × Nat)} (hf : iOf (mO mi) x = some (k, 5, n, E, P)) (ht : (h.2.1 a).1 = t) (he : E.find? (fun q => q.1 == t) = some (t, c)) (hd : st.drop n = .ref a :: r) (ha : (Value.ref a :: (st.take n).reverse).all cat1 = true) (hl : r.length ≤ 4) (hm : (Value.ref a :: (st.take n).reverse).length ≤ mL c) :
    fin ex (d + 1) mi (stp mi pc (.invokevirtual x) 3 L st h) = bnd (ex d c 0 (ent c (.ref a :: (st.take n).reverse)) [] h) (fun v h' => ex (d + 1) mi (pc + 3) L (v.toList ++ r) h') := by
  refine fin_call ?_ ha hl hm
  simp only [stp, lnq, if_true, invq, hf, virq, hd, ht, he]
  rw [if_neg (by decide), if_neg (by decide)]
theorem fin_viT {x c k n P a : Nat} {r : List Value} {E : List (Nat × Nat)} (hf : iOf (mO mi) x = some (k, 5, n, E, P)) (ht : isTh (h.2.1 a).1 = true) (he : ∀ t ∈ ([1, 8, 9] : List Nat), E.find? (fun q => q.1 == t) = some (t, c)) (hd : st.drop n = .ref a :: r) (ha : (Value.ref a :: (st.take n).reverse).all cat1 = true) (hl : r.length ≤ 4) (hm : (Value.ref a :: (st.take n).reverse).length ≤ mL c) :
    fin ex (d + 1) mi (stp mi pc (.invokevirtual x) 3 L st h) = bnd (ex d c 0 (ent c (.ref a :: (st.take n).reverse)) [] h) (fun v h' => ex (d + 1) mi (pc + 3) L (v.toList ++ r) h') :=
  fin_vi hf rfl (he _ (List.mem_of_elem_eq_true ht)) hd ha hl hm
end FIN
