/-! ===== the small machine: what the methods' bytecode does, over cells that are functions ===== -/
/-- what the cells hold: address, slot -/
abbrev Mm : Type := Nat → Nat → Value
/-- cells; their tags and lengths; the next address; the slots that were made -/
abbrev Hp : Type := Mm × (Nat → Nat × Nat) × Nat × Nat
abbrev Lc : Type := List (Option Value)
abbrev Rs : Type := Option Value × Hp
abbrev Ou : Type := (Nat × Lc × List Value × Hp) ⊕ ((Nat × Lc × Nat × Lc × List Value × Hp) ⊕ Rs)
def mup (m : Mm) (a k : Nat) (v : Value) : Mm := fun x y => if x = a ∧ y = k then v else m x y
def mnw {α : Type} (m : Nat → α) (a : Nat) (f : α) : Nat → α := fun x => if x = a then f else m x
def isR : Value → Bool
  | .ref _ => true
  | .null => true
  | _ => false
def cat1 : Value → Bool
  | .long _ => false
  | .double _ => false
  | _ => true
def clr : Option Value → Option Value
  | some (.long _) => none
  | some (.double _) => none
  | x => x
def stL (L : Lc) (i : Nat) (v : Value) : Lc := match i with
  | 0 => L.set 0 (some v)
  | j + 1 => (L.modify j clr).set (j + 1) (some v)
def pmt (mi : Nat) : pM := pml.getD mi pm_L_law
def mO (mi : Nat) : Nat := (pmt mi).1
def mY (mi : Nat) : MethodName := (pmt mi).2.1
def mB (mi : Nat) : ByteArray := (pmt mi).2.2.1
def mL (mi : Nat) : Nat := (pmt mi).2.2.2.1
def mR (mi : Nat) : Option FieldType := (pmt mi).2.2.2.2
def cOf (t : Nat) : vw_C := pcl.getD t ("", pT0, 0)
def nxt (pc len : Nat) (L : Lc) (st : List Value) (h : Hp) : Option Ou := some (.inl (pc + len, L, st, h))
def jmp (pc : Nat) (off : Int) (L : Lc) (st : List Value) (h : Hp) : Option Ou := if (pc : Int) + off < 0 then none else some (.inl (((pc : Int) + off).toNat, L, st, h))
def lnq (len n : Nat) (x : Option Ou) : Option Ou := if len = n then x else none
def ldI (L : Lc) (k : Nat) (pc len : Nat) (st : List Value) (h : Hp) : Option Ou := match L[k]? with
  | some (some (.int x)) => nxt pc len L (.int x :: st) h
  | _ => none
def ldL (L : Lc) (k : Nat) (pc len : Nat) (st : List Value) (h : Hp) : Option Ou := match L[k]? with
  | some (some (.long x)) => nxt pc len L (.long x :: st) h
  | _ => none
def ldA (L : Lc) (k : Nat) (pc len : Nat) (st : List Value) (h : Hp) : Option Ou := match L[k]? with
  | some (some v) => if isR v = true then nxt pc len L (v :: st) h else none
  | _ => none
def stI (L : Lc) (k : Nat) (pc len : Nat) (st : List Value) (h : Hp) : Option Ou := match st with
  | .int x :: st => if k < L.length then nxt pc len (stL L k (.int x)) st h else none
  | _ => none
def stA (L : Lc) (k : Nat) (pc len : Nat) (st : List Value) (h : Hp) : Option Ou := match st with
  | v :: st => if isR v = true ∧ k < L.length then nxt pc len (stL L k v) st h else none
  | _ => none
def stJ (L : Lc) (k : Nat) (pc len : Nat) (st : List Value) (h : Hp) : Option Ou := match st with
  | .long x :: st => if k + 1 < L.length then nxt pc len ((stL L k (.long x)).set (k + 1) none) st h else none
  | _ => none
def iop (f : Int32 → Int32 → Int32) (L : Lc) (pc len : Nat) (st : List Value) (h : Hp) : Option Ou := match st with
  | .int y :: .int x :: st => nxt pc len L (.int (f x y) :: st) h
  | _ => none
def lop (f : Int64 → Int64 → Int64) (L : Lc) (pc len : Nat) (st : List Value) (h : Hp) : Option Ou := match st with
  | .long y :: .long x :: st => nxt pc len L (.long (f x y) :: st) h
  | _ => none
def brq (c : Prop) [Decidable c] (off : Int) (L : Lc) (pc len : Nat) (st : List Value) (h : Hp) : Option Ou := if (pc : Int) + off < 0 then none else if c then some (.inl (((pc : Int) + off).toNat, L, st, h)) else nxt pc len L st h
def icmpq (c : ClassFile.Cond) (off : Int) (L : Lc) (pc len : Nat) (st : List Value) (h : Hp) : Option Ou := match st with
  | .int y :: .int x :: st => (match c with
    | .eq => brq (x = y) off L pc len st h
    | .ne => brq (¬ x = y) off L pc len st h
    | .lt => brq (x < y) off L pc len st h
    | .ge => brq (y ≤ x) off L pc len st h
    | .gt => brq (y < x) off L pc len st h
    | .le => brq (x ≤ y) off L pc len st h)
  | _ => none
def ifq (c : ClassFile.Cond) (off : Int) (L : Lc) (pc len : Nat) (st : List Value) (h : Hp) : Option Ou := match st with
  | .int x :: st => (match c with
    | .eq => brq (x = 0) off L pc len st h
    | .ne => brq (¬ x = 0) off L pc len st h
    | .lt => brq (x < 0) off L pc len st h
    | .ge => brq (0 ≤ x) off L pc len st h
    | .gt => brq (0 < x) off L pc len st h
    | .le => brq (x ≤ 0) off L pc len st h)
  | _ => none
def swq : List (Int × Int) → Int → Int32 → Int
  | [], d, _ => d
  | (a, o) :: r, d, x => if x = Int32.ofInt a then o else swq r d x
def fOf (o x : Nat) : Option pF := pfl.find? (fun e => e.1 == 1000 * o + x && decide (x < 1000))
def kOf (o x : Nat) : Option (Nat × Nat × Nat) := pcls.find? (fun e => e.1 == 1000 * o + x && decide (x < 1000))
def iOf (o x : Nat) : Option (Nat × Nat × Nat × List (Nat × Nat) × Nat) := pin.find? (fun e => e.1 == 1000 * o + x && decide (x < 1000))
def sOf (o x : Nat) : Option (Nat × Int32 × Nat) := pcst.find? (fun e => e.1 == 1000 * o + x && decide (x < 1000))
def s2Of (o x : Nat) : Option (Nat × Int64 × Nat) := pcst2.find? (fun e => e.1 == 1000 * o + x && decide (x < 1000))
/-- what a field of a type takes -/
def fitv : FieldType → Value → Bool
  | .int, .int _ => true
  | .object _, v => isR v
  | .array _, v => isR v
  | _, _ => false
def dfv : FieldType → Value
  | .int => .int 0
  | _ => .null
/-- pairs of tags: an object of the first may stand where the second is asked for -/
def casts : List (Nat × Nat) := [(1, 9), (8, 9), (9, 9), (3, 3), (0, 0), (2, 2), (4, 12), (6, 12), (7, 12), (1, 1), (8, 8)]
/-- pairs of tags: an object of the first is none of the second -/
def nocasts : List (Nat × Nat) := [(9, 8), (1, 8), (9, 1), (8, 1)]
def ent (mi : Nat) (vs : List Value) : Lc := vs.map some ++ List.replicate (mL mi - vs.length) none
def callq (c : Nat) (vs : List Value) (L : Lc) (pc len : Nat) (st : List Value) (h : Hp) : Option Ou :=
  if vs.all cat1 = true ∧ st.length ≤ 4 ∧ vs.length ≤ mL c then some (.inr (.inl (c, ent c vs, pc + len, L, st, h))) else none
def virq (e : List (Nat × Nat)) (n : Nat) (L : Lc) (pc len : Nat) (st : List Value) (h : Hp) : Option Ou :=
  match st.drop n with
  | .ref a :: r => (match e.find? (fun q => q.1 == (h.2.1 a).1) with
    | some q => callq q.2 (.ref a :: (st.take n).reverse) L pc len r h
    | none => none)
  | _ => none
def newq (t : Nat) (L : Lc) (pc len : Nat) (st : List Value) (h : Hp) : Option Ou :=
  nxt pc len L (.ref h.2.2.1 :: st) (mnw h.1 h.2.2.1 (fun k => dfv (pty t k)), mnw h.2.1 h.2.2.1 (t, (cOf t).2.2), h.2.2.1 + 1, h.2.2.2 + (cOf t).2.2)
def arrq (t n : Nat) (v : Value) (L : Lc) (pc len : Nat) (st : List Value) (h : Hp) : Option Ou :=
  if n ≤ 10000 then nxt pc len L (.ref h.2.2.1 :: st) (mnw h.1 h.2.2.1 (fun _ => v), mnw h.2.1 h.2.2.1 (t, n), h.2.2.1 + 1, h.2.2.2 + n) else none
/-- new int[n][m] -/
def arr2q (n k : Nat) (L : Lc) (pc len : Nat) (st : List Value) (h : Hp) : Option Ou :=
  if n ≤ 1000 ∧ k ≤ 1000 then nxt pc len L (.ref h.2.2.1 :: st)
    (fun x => if x = h.2.2.1 then (fun j => if j < n then .ref (h.2.2.1 + 1 + j) else .null) else if h.2.2.1 < x ∧ x ≤ h.2.2.1 + n then (fun _ => .int 0) else h.1 x,
     fun x => if x = h.2.2.1 then (26, n) else if h.2.2.1 < x ∧ x ≤ h.2.2.1 + n then (20, k) else h.2.1 x, h.2.2.1 + 1 + n, h.2.2.2 + n + n * k) else none
def invq (mi x op : Nat) (L : Lc) (pc len : Nat) (st : List Value) (h : Hp) : Option Ou := match iOf (mO mi) x with
  | none => none
  | some (_, kd, n, e, _) =>
    if op = 0 then (match kd, e, st with
      | 0, (_, c) :: _, st => if n ≤ st.length then callq c (st.take n).reverse L pc len (st.drop n) h else none
      | 1, (_, c) :: _, st => if n ≤ st.length then callq c (st.take n).reverse L pc len (st.drop n) h else none
      | 6, _, .int x :: st => if st.length ≤ 4 then nxt pc len L (.int (if 0 ≤ x then x else 0 - x) :: st) h else none
      | 7, _, .int y :: .int x :: st => if st.length ≤ 4 then nxt pc len L (.int (if x < y then y else x) :: st) h else none
      | 8, _, .int y :: .int x :: st => if st.length ≤ 4 then nxt pc len L (.int (if y < x then y else x) :: st) h else none
      | _, _, _ => none)
    else if op = 1 then (match kd, e, st.drop n with
      | 2, (_, c) :: _, .ref a :: r => callq c (.ref a :: (st.take n).reverse) L pc len r h
      | 3, (_, c) :: _, .ref a :: r => callq c (.ref a :: (st.take n).reverse) L pc len r h
      | 4, _, .ref _ :: r => if n = 0 ∧ r.length ≤ 4 then nxt pc len L r h else none
      | _, _, _ => none)
    else if kd = 5 then virq e n L pc len st h else none
def isInit (mi : Nat) : Bool := (mY mi).name == "<init>"
def putq (mi : Nat) (e : pF) (L : Lc) (pc len : Nat) (st : List Value) (h : Hp) : Option Ou := match st with
  | v :: .ref a :: st => if e.2.2.1.contains (h.2.1 a).1 = true ∧ fitv (pty (h.2.1 a).1 e.2.1) v = true ∧ (((cOf (h.2.1 a).1).2.1 e.2.1).2.2.2 = true → isInit mi = true ∧ e.2.2.2.2.2.1 = none ∧ ((cOf (h.2.1 a).1).2.1 e.2.1).1 = pcn.getD (mO mi) "") then nxt pc len L st (mup h.1 a e.2.1 v, h.2) else none
  | _ => none
def acmpq (b : Bool) (off : Int) (L : Lc) (pc len : Nat) (st : List Value) (h : Hp) : Option Ou := match st with
  | w :: v :: st => if isR v = true ∧ isR w = true then (if b = true then brq (v = w) off L pc len st h else brq (¬ v = w) off L pc len st h) else none
  | _ => none
def retq (mi : Nat) (st : List Value) (h : Hp) : Option Ou := match st with
  | [.int x] => if mR mi = some .int ∨ (mR mi = some .boolean ∧ (x = 0 ∨ x = 1)) then some (.inr (.inr (some (.int x), h))) else none
  | _ => none
def aretq (mi : Nat) (st : List Value) (h : Hp) : Option Ou := match st with
  | [v] => if isR v = true ∧ ((mR mi).any fun t => match t with | .object _ => true | _ => false) = true then some (.inr (.inr (some v, h))) else none
  | _ => none
def elT (t : Nat) : Nat := match t with | 21 => 9 | 22 => 3 | 23 => 0 | 24 => 2 | _ => 12
def acb : ACond → Bool
  | .eq => true
  | .ne => false
def getq (e : pF) (L : Lc) (pc len : Nat) (st : List Value) (h : Hp) : Option Ou := match st with
  | .ref a :: st => if e.2.2.1.contains (h.2.1 a).1 = true then nxt pc len L (h.1 a e.2.1 :: st) h else none
  | _ => none
def nwaq (L : Lc) (pc len : Nat) (st : List Value) (h : Hp) : Option Ou := match st with
  | .int n :: st => if n < 0 then none else arrq 20 n.toNatClampNeg (.int 0) L pc len st h
  | _ => none
def anwT (t : Nat) : Nat := match t with | 9 => 21 | 3 => 22 | 0 => 23 | 2 => 24 | 12 => 25 | _ => 0
def anwq (t : Nat) (L : Lc) (pc len : Nat) (st : List Value) (h : Hp) : Option Ou := match st with
  | .int n :: st => if n < 0 ∨ anwT t = 0 then none else arrq (anwT t) n.toNatClampNeg .null L pc len st h
  | _ => none
def mnaq (t d : Nat) (L : Lc) (pc len : Nat) (st : List Value) (h : Hp) : Option Ou := match st with
  | .int k :: .int n :: st => if d = 2 ∧ t = 26 ∧ ¬ n < 0 ∧ ¬ k < 0 then arr2q n.toNatClampNeg k.toNatClampNeg L pc len st h else none
  | _ => none
def ckcq (t : Nat) (L : Lc) (pc len : Nat) (st : List Value) (h : Hp) : Option Ou := match st with
  | .ref a :: st => if casts.contains ((h.2.1 a).1, t) = true then nxt pc len L (.ref a :: st) h else none
  | _ => none
def insq (t : Nat) (L : Lc) (pc len : Nat) (st : List Value) (h : Hp) : Option Ou := match st with
  | .null :: st => nxt pc len L (.int 0 :: st) h
  | .ref a :: st => if casts.contains ((h.2.1 a).1, t) = true then nxt pc len L (.int 1 :: st) h else if nocasts.contains ((h.2.1 a).1, t) = true then nxt pc len L (.int 0 :: st) h else none
  | _ => none
def stp (mi pc : Nat) (i : Instr) (len : Nat) (L : Lc) (st : List Value) (h : Hp) : Option Ou := match i with
  | .iconst n => lnq len 1 (nxt pc len L (.int (Int32.ofInt n) :: st) h)
  | .bipush n => lnq len 2 (nxt pc len L (.int (Int8.ofInt n).toInt32 :: st) h)
  | .sipush n => lnq len 3 (nxt pc len L (.int (Int16.ofInt n).toInt32 :: st) h)
  | .lconst n => lnq len 1 (nxt pc len L (.long (Int64.ofNat (n : Nat)) :: st) h)
  | .ldc x => lnq len 2 (match sOf (mO mi) x with
    | some e => nxt pc len L (.int e.2.1 :: st) h
    | none => none)
  | .ldc_w x => lnq len 3 (match sOf (mO mi) x with
    | some e => nxt pc len L (.int e.2.1 :: st) h
    | none => none)
  | .ldc2_w x => lnq len 3 (match s2Of (mO mi) x with
    | some e => nxt pc len L (.long e.2.1 :: st) h
    | none => none)
  | .aconst_null => lnq len 1 (nxt pc len L (.null :: st) h)
  | .iload_n k => lnq len 1 (ldI L k pc len st h)
  | .iload k => lnq len 2 (ldI L k pc len st h)
  | .lload k => lnq len 2 (ldL L k pc len st h)
  | .aload_n k => lnq len 1 (ldA L k pc len st h)
  | .aload k => lnq len 2 (ldA L k pc len st h)
  | .istore_n k => lnq len 1 (stI L k pc len st h)
  | .istore k => lnq len 2 (stI L k pc len st h)
  | .lstore k => lnq len 2 (stJ L k pc len st h)
  | .astore_n k => lnq len 1 (stA L k pc len st h)
  | .astore k => lnq len 2 (stA L k pc len st h)
  | .iinc k n => lnq len 3 (match L[k]? with
    | some (some (.int x)) => nxt pc len (stL L k (.int (x + Int32.ofInt n))) st h
    | _ => none)
  | .iadd => lnq len 1 (iop (fun x y => x + y) L pc len st h)
  | .isub => lnq len 1 (iop (fun x y => x - y) L pc len st h)
  | .imul => lnq len 1 (iop (fun x y => x * y) L pc len st h)
  | .iand => lnq len 1 (iop (fun x y => x &&& y) L pc len st h)
  | .ishr => lnq len 1 (iop (fun x y => x >>> (y &&& 31)) L pc len st h)
  | .idiv => lnq len 1 (match st with
    | .int y :: .int x :: st => if y = 0 then none else nxt pc len L (.int (x / y) :: st) h
    | _ => none)
  | .irem => lnq len 1 (match st with
    | .int y :: .int x :: st => if y = 0 then none else nxt pc len L (.int (x - (x / y) * y) :: st) h
    | _ => none)
  | .ineg => lnq len 1 (match st with
    | .int x :: st => nxt pc len L (.int (-x) :: st) h
    | _ => none)
  | .ladd => lnq len 1 (lop (fun x y => x + y) L pc len st h)
  | .lsub => lnq len 1 (lop (fun x y => x - y) L pc len st h)
  | .i2l => lnq len 1 (match st with
    | .int x :: st => nxt pc len L (.long x.toInt64 :: st) h
    | _ => none)
  | .l2i => lnq len 1 (match st with
    | .long x :: st => nxt pc len L (.int x.toInt32 :: st) h
    | _ => none)
  | .lcmp => lnq len 1 (match st with
    | .long y :: .long x :: st => nxt pc len L (.int (lg_cmp x y) :: st) h
    | _ => none)
  | .dup => lnq len 1 (match st with
    | v :: st => if cat1 v = true then nxt pc len L (v :: v :: st) h else none
    | _ => none)
  | .pop => lnq len 1 (match st with
    | v :: st => if cat1 v = true then nxt pc len L st h else none
    | _ => none)
  | .dup2 => lnq len 1 (match st with
    | v :: w :: st => if cat1 v = true ∧ cat1 w = true then nxt pc len L (v :: w :: v :: w :: st) h else none
    | _ => none)
  | .if_icmp c off => lnq len 3 (icmpq c off L pc len st h)
  | .ifCond c off => lnq len 3 (ifq c off L pc len st h)
  | .goto off => lnq len 3 (jmp pc off L st h)
  | .ifnull off => lnq len 3 (match st with
    | .null :: st => jmp pc off L st h
    | .ref _ :: st => nxt pc len L st h
    | _ => none)
  | .ifnonnull off => lnq len 3 (match st with
    | .null :: st => nxt pc len L st h
    | .ref _ :: st => jmp pc off L st h
    | _ => none)
  | .if_acmp c off => lnq len 3 (acmpq (acb c) off L pc len st h)
  | .lookupswitch d ps => (match st with
    | .int x :: st => if (ps.toList.zip (ps.toList.drop 1)).all (fun (a, next) => a.1 < next.1) = true ∧ ps.toList.all (fun q => decide ((Int32.ofInt q.1).toInt = q.1)) = true then jmp pc (swq ps.toList d x) L st h else none
    | _ => none)
  | .tableswitch d lo hi offs => (match st with
    | .int x :: st => if x.toInt < lo ∨ hi < x.toInt then jmp pc d L st h else (match offs[(x.toInt - lo).toNat]? with
      | some off => jmp pc off L st h
      | none => none)
    | _ => none)
  | .getfield x => lnq len 3 (match fOf (mO mi) x with
    | some e => getq e L pc len st h
    | none => none)
  | .putfield x => lnq len 3 (match fOf (mO mi) x with
    | some e => putq mi e L pc len st h
    | _ => none)
  | .arraylength => lnq len 1 (match st with
    | .ref a :: st => if 20 ≤ (h.2.1 a).1 ∧ (h.2.1 a).1 ≤ 30 then nxt pc len L (.int (Int32.ofNat (h.2.1 a).2) :: st) h else none
    | _ => none)
  | .iaload => lnq len 1 (match st with
    | .int j :: .ref a :: st => if ((h.2.1 a).1 = 20 ∨ (h.2.1 a).1 = 30) ∧ 0 ≤ j ∧ j.toNatClampNeg < (h.2.1 a).2 then nxt pc len L (h.1 a j.toNatClampNeg :: st) h else none
    | _ => none)
  | .iastore => lnq len 1 (match st with
    | .int x :: .int j :: .ref a :: st => if (h.2.1 a).1 = 20 ∧ 0 ≤ j ∧ j.toNatClampNeg < (h.2.1 a).2 then nxt pc len L st (mup h.1 a j.toNatClampNeg (.int x), h.2) else none
    | _ => none)
  | .aaload => lnq len 1 (match st with
    | .int j :: .ref a :: st => if 21 ≤ (h.2.1 a).1 ∧ (h.2.1 a).1 ≤ 26 ∧ 0 ≤ j ∧ j.toNatClampNeg < (h.2.1 a).2 then nxt pc len L (h.1 a j.toNatClampNeg :: st) h else none
    | _ => none)
  | .aastore => lnq len 1 (match st with
    | .null :: .int j :: .ref a :: st => if 21 ≤ (h.2.1 a).1 ∧ (h.2.1 a).1 ≤ 25 ∧ 0 ≤ j ∧ j.toNatClampNeg < (h.2.1 a).2 then nxt pc len L st (mup h.1 a j.toNatClampNeg .null, h.2) else none
    | .ref v :: .int j :: .ref a :: st => if 21 ≤ (h.2.1 a).1 ∧ (h.2.1 a).1 ≤ 25 ∧ casts.contains ((h.2.1 v).1, elT (h.2.1 a).1) = true ∧ 0 ≤ j ∧ j.toNatClampNeg < (h.2.1 a).2 then nxt pc len L st (mup h.1 a j.toNatClampNeg (.ref v), h.2) else none
    | _ => none)
  | .newarray t => lnq len 2 (match t with
    | .int => nwaq L pc len st h
    | _ => none)
  | .anewarray x => lnq len 3 (match kOf (mO mi) x with
    | some e => anwq e.2.1 L pc len st h
    | none => none)
  | .multianewarray x d => lnq len 4 (match kOf (mO mi) x with
    | some e => mnaq e.2.1 d L pc len st h
    | none => none)
  | .new x => lnq len 3 (match kOf (mO mi) x with
    | some e => if e.2.1 < 12 then newq e.2.1 L pc len st h else none
    | none => none)
  | .checkcast x => lnq len 3 (match kOf (mO mi) x with
    | some e => ckcq e.2.1 L pc len st h
    | none => none)
  | .instanceof x => lnq len 3 (match kOf (mO mi) x with
    | some e => insq e.2.1 L pc len st h
    | none => none)
  | .invokestatic x => lnq len 3 (invq mi x 0 L pc len st h)
  | .invokespecial x => lnq len 3 (invq mi x 1 L pc len st h)
  | .invokevirtual x => lnq len 3 (invq mi x 2 L pc len st h)
  | .ireturn => lnq len 1 (retq mi st h)
  | .areturn => lnq len 1 (aretq mi st h)
  | .return_ => lnq len 1 (if mR mi = none ∧ st = [] then some (.inr (.inr (none, h))) else none)
  | _ => none
def one (mi pc : Nat) (L : Lc) (st : List Value) (h : Hp) : Option Ou := match decode (mB mi) pc with
  | .ok q => stp mi pc q.1 q.2 L st h
  | _ => none
def bnd (r : Option Rs) (f : Option Value → Hp → Option Rs) : Option Rs := match r with
  | none => none
  | some q => f q.1 q.2
theorem bnd_some (v : Option Value) (h : Hp) (f : Option Value → Hp → Option Rs) : bnd (some (v, h)) f = f v h := rfl
def fin (K : Nat → Nat → Nat → Lc → List Value → Hp → Option Rs) (d mi : Nat) (o : Option Ou) : Option Rs := match o with
  | none => none
  | some (.inl (pc, L, st, h)) => K d mi pc L st h
  | some (.inr (.inl (c, A, pc, L, st, h))) => (match d with
    | 0 => none
    | e + 1 => bnd (K e c 0 A [] h) (fun v h' => K (e + 1) mi pc L (v.toList ++ st) h'))
  | some (.inr (.inr r)) => some r
def rn : Nat → Nat → Nat → Nat → Lc → List Value → Hp → Option Rs
  | 0 => fun _ _ _ _ _ _ => none
  | f + 1 => fun d mi pc L st h => fin (rn f) d mi (one mi pc L st h)
theorem fin_mono {K K' : Nat → Nat → Nat → Lc → List Value → Hp → Option Rs} (hK : ∀ d mi pc L st h r, K d mi pc L st h = some r → K' d mi pc L st h = some r) {d mi : Nat} {o : Option Ou} {r : Rs} (h : fin K d mi o = some r) : fin K' d mi o = some r := by
  match o with
  | none => exact h
  | some (.inl (pc, L, st, hp)) => exact hK _ _ _ _ _ _ _ h
  | some (.inr (.inr r')) => exact h
  | some (.inr (.inl (c, A, pc, L, st, hp))) =>
    match d with
    | 0 => exact h
    | e + 1 =>
      simp only [fin] at h ⊢
      cases hc : K e c 0 A [] hp with
      | none => rw [hc] at h; exact absurd h (by simp [bnd])
      | some q =>
        rw [hc] at h
        rw [hK _ _ _ _ _ _ _ hc]
        exact hK _ _ _ _ _ _ _ h
theorem rn_succ : ∀ f d mi pc L st h r, rn f d mi pc L st h = some r → rn (f + 1) d mi pc L st h = some r := by
  intro f
  induction f with
  | zero => intro d mi pc L st h r q; exact absurd q (by simp [rn])
  | succ f ih => intro d mi pc L st h r q; exact fin_mono (K := rn f) (K' := rn (f + 1)) ih q
theorem rn_le {f g : Nat} (hfg : f ≤ g) {d mi pc : Nat} {L : Lc} {st : List Value} {h : Hp} {r : Rs} (q : rn f d mi pc L st h = some r) : rn g d mi pc L st h = some r := by
  induction hfg with
  | refl => exact q
  | step _ ih => exact rn_succ _ _ _ _ _ _ _ _ ih
noncomputable def ex (d mi pc : Nat) (L : Lc) (st : List Value) (h : Hp) : Option Rs :=
  @dite _ (∃ r, ∃ f, rn f d mi pc L st h = some r) (Classical.propDecidable _) (fun q => some (Classical.choose q)) (fun _ => none)
theorem ex_iff {d mi pc : Nat} {L : Lc} {st : List Value} {h : Hp} {r : Rs} : ex d mi pc L st h = some r ↔ ∃ f, rn f d mi pc L st h = some r := by
  constructor
  · intro q
    unfold ex at q
    split at q
    · rename_i w
      rw [← Option.some.inj q]
      exact Classical.choose_spec w
    · cases q
  · rintro ⟨f, q⟩
    have w : ∃ r, ∃ f, rn f d mi pc L st h = some r := ⟨r, f, q⟩
    unfold ex
    rw [dif_pos w]
    obtain ⟨g, hg⟩ := Classical.choose_spec w
    have h1 := rn_le (Nat.le_max_left f g) q
    have h2 := rn_le (Nat.le_max_right f g) hg
    rw [h1] at h2
    rw [Option.some.inj h2]
theorem ex_eq (d mi pc : Nat) (L : Lc) (st : List Value) (h : Hp) : ex d mi pc L st h = fin ex d mi (one mi pc L st h) := by
  apply Option.ext
  intro r
  constructor
  · intro q
    obtain ⟨f, q⟩ := ex_iff.mp q
    match f with
    | 0 => exact absurd q (by simp [rn])
    | f + 1 => exact fin_mono (K := rn f) (K' := ex) (fun _ _ _ _ _ _ _ q => ex_iff.mpr ⟨f, q⟩) q
  · intro q
    refine ex_iff.mpr ?_
    suffices w : ∃ f, fin (rn f) d mi (one mi pc L st h) = some r by
      obtain ⟨f, w⟩ := w
      exact ⟨f + 1, w⟩
    generalize one mi pc L st h = o at q ⊢
    match o with
    | none => exact absurd q (by simp [fin])
    | some (.inl (pc, L, st, hp)) => exact ex_iff.mp q
    | some (.inr (.inr r')) => exact ⟨0, q⟩
    | some (.inr (.inl (c, A, pc, L, st, hp))) =>
      match d with
      | 0 => exact absurd q (by simp [fin])
      | e + 1 =>
        simp only [fin] at q ⊢
        cases hc : ex e c 0 A [] hp with
        | none => rw [hc] at q; exact absurd q (by simp [bnd])
        | some z =>
          rw [hc] at q
          obtain ⟨f, hf⟩ := ex_iff.mp hc
          obtain ⟨g, hg⟩ := ex_iff.mp (show ex (e + 1) mi pc L (z.1.toList ++ st) z.2 = some r from q)
          refine ⟨max f g, ?_⟩
          rw [rn_le (Nat.le_max_left f g) hf]
          exact rn_le (Nat.le_max_right f g) hg
/-- one step, by what is decoded there -/
theorem ex_of {mi pc : Nat} {i : Instr} {len : Nat} (hd : decode (mB mi) pc = .ok (i, len)) (d : Nat) (L : Lc) (st : List Value) (h : Hp) : ex d mi pc L st h = fin ex d mi (stp mi pc i len L st h) := by
  rw [ex_eq]
  unfold one
  rw [hd]
