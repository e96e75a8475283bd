/-! An abstract machine over a small heap of numbered cells: what the methods' bytes do, said once; part 04 holds it against the real machine. -/
/-- a cell: an object (its class's number, its fields), or an array (its kind's number, its length, its contents) -/
abbrev AC : Type := (Nat × List Value) ⊕ (Nat × Nat × ((Nat → Int32) ⊕ (Nat → Int64) ⊕ (Nat → Option Nat)))
/-- a heap: how many cells, how many slots, the cells -/
abbrev AM : Type := Nat × Nat × (Nat → AC)
abbrev AR : Type := Option Value × AM
/-- an instruction in its place: itself, its length, numbers, a constant -/
abbrev En : Type := Instr × Nat × List Nat × Value
abbrev NX : Type := Option ((Nat × List Value × List Value × AM) ⊕ AR)
def zI (z : Int) : Int32 := Int32.ofInt z
def zJ (z : Int) : Int64 := Int64.ofInt z
def uu : Value := .retAddr 0
def isRf (v : Value) : Bool := match v with
  | .null => true
  | .ref _ => true
  | _ => false
def is2 (v : Value) : Bool := match v with
  | .long _ => true
  | .double _ => true
  | _ => false
def kl (L : List Value) (i : Nat) : List Value := match i with
  | 0 => L
  | j + 1 => match L[j]? with
    | some v => if is2 v = true then L.set j uu else L
    | none => L
def st1 (L : List Value) (i : Nat) (v : Value) : List Value := (kl L i).set i v
def st2 (L : List Value) (i : Nat) (v : Value) : List Value := ((kl L i).set (i + 1) uu).set i v
def mU (M : AM) (a : Nat) (c : AC) : AM := (M.1, M.2.1, fun q => if q = a then c else M.2.2 q)
def mN (M : AM) (k : Nat) (c : AC) : AM := (M.1 + 1, M.2.1 + k, fun q => if q = M.1 then c else M.2.2 q)
def enL (n : Nat) (as : List Value) : List Value := match as with
  | [] => List.replicate n uu
  | v :: vs => if is2 v = true then v :: uu :: enL (n - 2) vs else v :: enL (n - 1) vs
def nx_2 (f : Int32 → Int32 → Int32) (pc : Nat) (L st : List Value) (M : AM) : NX := match st with
  | .int y :: .int x :: r => some (.inl (pc, L, .int (f x y) :: r, M))
  | _ => none
def nx_2d (f : Int32 → Int32 → Int32) (pc : Nat) (L st : List Value) (M : AM) : NX := match st with
  | .int y :: .int x :: r => if y = 0 then none else some (.inl (pc, L, .int (f x y) :: r, M))
  | _ => none
def nx_l2 (f : Int64 → Int64 → Int64) (pc : Nat) (L st : List Value) (M : AM) : NX := match st with
  | .long y :: .long x :: r => some (.inl (pc, L, .long (f x y) :: r, M))
  | _ => none
def nx_l2d (f : Int64 → Int64 → Int64) (pc : Nat) (L st : List Value) (M : AM) : NX := match st with
  | .long y :: .long x :: r => if y = 0 then none else some (.inl (pc, L, .long (f x y) :: r, M))
  | _ => none
def nx_1 (f : Int32 → Value) (pc : Nat) (L st : List Value) (M : AM) : NX := match st with
  | .int x :: r => some (.inl (pc, L, f x :: r, M))
  | _ => none
def nx_ld (t : Nat) (i pc : Nat) (L st : List Value) (M : AM) : NX := match t, L[i]? with
  | 0, some (.int x) => some (.inl (pc, L, .int x :: st, M))
  | 1, some (.long x) => some (.inl (pc, L, .long x :: st, M))
  | 2, some v => if isRf v = true then some (.inl (pc, L, v :: st, M)) else none
  | _, _ => none
def nx_st (t : Nat) (i pc : Nat) (L st : List Value) (M : AM) : NX := match t, st with
  | 0, .int x :: r => if i < L.length then some (.inl (pc, st1 L i (.int x), r, M)) else none
  | 1, .long x :: r => if i + 1 < L.length then some (.inl (pc, st2 L i (.long x), r, M)) else none
  | 2, v :: r => if isRf v = true ∧ i < L.length then some (.inl (pc, st1 L i v, r, M)) else none
  | _, _ => none
def cH (c : Jvm.ClassFile.Cond) (x y : Int32) : Prop := match c with
  | .eq => x = y
  | .ne => ¬ x = y
  | .lt => x < y
  | .ge => y ≤ x
  | .gt => y < x
  | .le => x ≤ y
def cD (c : Jvm.ClassFile.Cond) (x y : Int32) : Decidable (cH c x y) := match c with
  | .eq => inferInstanceAs (Decidable (x = y))
  | .ne => inferInstanceAs (Decidable (¬ x = y))
  | .lt => inferInstanceAs (Decidable (x < y))
  | .ge => inferInstanceAs (Decidable (y ≤ x))
  | .gt => inferInstanceAs (Decidable (y < x))
  | .le => inferInstanceAs (Decidable (x ≤ y))
def nx_if (c : Jvm.ClassFile.Cond) (tgt pc : Nat) (L st : List Value) (M : AM) : NX := match st with
  | .int x :: r => some (.inl (@ite _ (cH c x 0) (cD c x 0) tgt pc, L, r, M))
  | _ => none
def nx_ic (c : Jvm.ClassFile.Cond) (tgt pc : Nat) (L st : List Value) (M : AM) : NX := match st with
  | .int y :: .int x :: r => some (.inl (@ite _ (cH c x y) (cD c x y) tgt pc, L, r, M))
  | _ => none
def nx_nul (b : Bool) (tgt pc : Nat) (L st : List Value) (M : AM) : NX := match st with
  | .null :: r => some (.inl (if b = true then tgt else pc, L, r, M))
  | .ref _ :: r => some (.inl (if b = true then pc else tgt, L, r, M))
  | _ => none
def nx_tsw (lo hi : Int) (ts : List Nat) (L st : List Value) (M : AM) : NX := match st with
  | .int x :: r => if x.toInt < lo ∨ hi < x.toInt then (match ts with
      | d :: _ => some (.inl (d, L, r, M))
      | [] => none) else (match ts[(x.toInt - lo).toNat + 1]? with
      | some t => some (.inl (t, L, r, M))
      | none => none)
  | _ => none
def nx_lsw (ps : List (Int × Int)) (ts : List Nat) (x : Int) : Option Nat := match ps, ts with
  | [], [d] => some d
  | p :: ps, t :: ts => if p.1 = x then some t else nx_lsw ps ts x
  | _, _ => none
def gfA (c : AC) (ci k : Nat) : Option Value := match c with
  | .inl (c', fs) => if c' = ci then fs[k]? else none
  | .inr _ => none
def okv (tc : Nat) (v : Value) : Bool := match tc, v with
  | 0, .int _ => true
  | 1, .int x => x == 0 || x == 1
  | 2, .null => true
  | 2, .ref _ => true
  | _, _ => false
def nx_gf (ci k pc : Nat) (L st : List Value) (M : AM) : NX := match st with
  | .ref a :: r => match gfA (M.2.2 a) ci k with
    | some v => some (.inl (pc, L, v :: r, M))
    | none => none
  | _ => none
def pfA (c : AC) (ci k : Nat) (v : Value) : Option AC := match c with
  | .inl (c', fs) => if c' = ci ∧ k < fs.length then some (.inl (ci, fs.set k v)) else none
  | .inr _ => none
def nx_pf (ci k tc pc : Nat) (L st : List Value) (M : AM) : NX := match st with
  | v :: .ref a :: r => if okv tc v = true then (match pfA (M.2.2 a) ci k v with
    | some c => some (.inl (pc, L, r, mU M a c))
    | none => none) else none
  | _ => none
def aIn (i : Int32) (n : Nat) : Prop := 0 ≤ i.toInt ∧ i.toInt < n
def aInD (i : Int32) (n : Nat) : Decidable (aIn i n) := inferInstanceAs (Decidable (_ ∧ _))
def ldI (c : AC) (i : Int32) : Option Value := match c with
  | .inr (t, n, .inl f) => if (t = 0 ∨ t = 7) ∧ 0 ≤ i.toInt ∧ i.toInt < n then some (.int (f i.toNatClampNeg)) else none
  | _ => none
def ldJ (c : AC) (i : Int32) : Option Value := match c with
  | .inr (t, n, .inr (.inl f)) => if t = 1 ∧ 0 ≤ i.toInt ∧ i.toInt < n then some (.long (f i.toNatClampNeg)) else none
  | _ => none
def ldQ (c : AC) (i : Int32) : Option Value := match c with
  | .inr (t, n, .inr (.inr f)) => if (t = 2 ∨ t = 3 ∨ t = 4) ∧ 0 ≤ i.toInt ∧ i.toInt < n then some (va_rf (f i.toNatClampNeg)) else none
  | _ => none
def nx_al (g : AC → Int32 → Option Value) (pc : Nat) (L st : List Value) (M : AM) : NX := match st with
  | .int i :: .ref a :: r => match g (M.2.2 a) i with
    | some v => some (.inl (pc, L, v :: r, M))
    | none => none
  | _ => none
def stI (c : AC) (i : Int32) (x : Int32) : Option AC := match c with
  | .inr (t, n, .inl f) => if t = 0 ∧ 0 ≤ i.toInt ∧ i.toInt < n then some (.inr (0, n, .inl (upd f i.toNatClampNeg x))) else none
  | _ => none
def stJ (c : AC) (i : Int32) (x : Int64) : Option AC := match c with
  | .inr (t, n, .inr (.inl f)) => if t = 1 ∧ 0 ≤ i.toInt ∧ i.toInt < n then some (.inr (1, n, .inr (.inl (vp_updL f i.toNatClampNeg x)))) else none
  | _ => none
/-- of which class the elements of an array of objects are -/
def elc (t : Nat) : Nat := if t = 2 then 1 else 3
def isC (c : AC) (ci : Nat) : Bool := match c with
  | .inl (c', _) => c' == ci
  | .inr _ => false
def stQ (M : AM) (c : AC) (i : Int32) (v : Value) : Option AC := match c with
  | .inr (t, n, .inr (.inr f)) => if (t = 2 ∨ t = 3) ∧ 0 ≤ i.toInt ∧ i.toInt < n then (match v with
    | .null => some (.inr (t, n, .inr (.inr (va_up f i.toNatClampNeg none))))
    | .ref q => if isC (M.2.2 q) (elc t) = true then some (.inr (t, n, .inr (.inr (va_up f i.toNatClampNeg (some q))))) else none
    | _ => none) else none
  | _ => none
def nx_is (pc : Nat) (L st : List Value) (M : AM) : NX := match st with
  | .int x :: .int i :: .ref a :: r => match stI (M.2.2 a) i x with
    | some c => some (.inl (pc, L, r, mU M a c))
    | none => none
  | _ => none
def nx_js (pc : Nat) (L st : List Value) (M : AM) : NX := match st with
  | .long x :: .int i :: .ref a :: r => match stJ (M.2.2 a) i x with
    | some c => some (.inl (pc, L, r, mU M a c))
    | none => none
  | _ => none
def nx_qs (pc : Nat) (L st : List Value) (M : AM) : NX := match st with
  | v :: .int i :: .ref a :: r => match stQ M (M.2.2 a) i v with
    | some c => some (.inl (pc, L, r, mU M a c))
    | none => none
  | _ => none
def lenA (c : AC) : Option Nat := match c with
  | .inr (t, n, _) => if t < 8 then some n else none
  | .inl _ => none
def nx_len (pc : Nat) (L st : List Value) (M : AM) : NX := match st with
  | .ref a :: r => match lenA (M.2.2 a) with
    | some n => some (.inl (pc, L, .int (Int32.ofNat n) :: r, M))
    | none => none
  | _ => none
def nx_new (ci : Nat) (fs : List Value) (pc : Nat) (L st : List Value) (M : AM) : NX :=
  if M.1 < 600000 then some (.inl (pc, L, .ref M.1 :: st, mN M fs.length (.inl (ci, fs)))) else none
def nwA (t n : Nat) : AC := if t = 0 then .inr (0, n, .inl fun _ => 0) else if t = 1 then .inr (1, n, .inr (.inl fun _ => 0)) else .inr (t, n, .inr (.inr fun _ => none))
def nx_na (t pc : Nat) (L st : List Value) (M : AM) : NX := match st with
  | .int n :: r => if M.1 < 600000 ∧ 0 ≤ n.toInt ∧ n.toInt < 100000 then some (.inl (pc, L, .ref M.1 :: r, mN M n.toNatClampNeg (nwA t n.toNatClampNeg))) else none
  | _ => none
def mMul (M : AM) (n k : Nat) : AM := (M.1 + 1 + n, M.2.1 + n + n * k, fun q => if q = M.1 then .inr (4, n, .inr (.inr fun i => if i < n then some (M.1 + 1 + i) else none)) else if M.1 < q ∧ q ≤ M.1 + n then .inr (1, k, .inr (.inl fun _ => 0)) else M.2.2 q)
def nx_mna (pc : Nat) (L st : List Value) (M : AM) : NX := match st with
  | .int k :: .int n :: r => if M.1 < 600000 ∧ 0 ≤ n.toInt ∧ n.toInt < 1000 ∧ 0 ≤ k.toInt ∧ k.toInt < 1000 then some (.inl (pc, L, .ref M.1 :: r, mMul M n.toNatClampNeg k.toNatClampNeg)) else none
  | _ => none
def nx_cpy (pc : Nat) (L st : List Value) (M : AM) : NX := match st with
  | .int n :: .int dp :: .ref a :: .int sp :: .ref a0 :: r => (match M.2.2 a0, M.2.2 a with
    | .inr (t0, n0, .inr (.inl f)), .inr (t1, n1, .inr (.inl g)) => if t0 = 1 ∧ t1 = 1 ∧ 0 ≤ sp.toInt ∧ 0 ≤ dp.toInt ∧ 0 ≤ n.toInt ∧ sp.toInt + n.toInt ≤ n0 ∧ dp.toInt + n.toInt ≤ n1 ∧ r.length ≤ 4 then some (.inl (pc, L, r, mU M a (.inr (1, n1, .inr (.inl (va_cpy f g sp.toNatClampNeg dp.toNatClampNeg n.toNatClampNeg)))))) else none
    | _, _ => none)
  | _ => none
/-- the receiver of a call: an object of the class, or (class 90) a String -/
def rcv (M : AM) (ci : Nat) (as : List Value) : Bool := match as with
  | .ref a :: _ => if ci = 90 then decide (1000000 < a) else isC (M.2.2 a) ci
  | _ => false
def nx_ret (pc : Nat) (L : List Value) (r : List Value) (o : Option AR) : NX := match o with
  | some (some v, M) => some (.inl (pc, L, v :: r, M))
  | some (none, M) => some (.inl (pc, L, r, M))
  | none => none
def nx_inv (cf : Nat → List Value → AM → Option AR) (vr : Bool) (ci y n pc : Nat) (L st : List Value) (M : AM) : NX :=
  if (vr = true → rcv M ci (st.take n).reverse = true) ∧ n ≤ st.length ∧ (st.drop n).length ≤ 4 then nx_ret pc L (st.drop n) (cf y (st.take n).reverse M) else none
def nx_oi (pc : Nat) (L st : List Value) (M : AM) : NX := match st with
  | .ref _ :: r => if r.length ≤ 4 then some (.inl (pc, L, r, M)) else none
  | _ => none
def nx_end (t : Nat) (st : List Value) (M : AM) : NX := match t, st with
  | 0, [.int v] => some (.inr (some (.int v), M))
  | 1, [.int v] => if v = 0 ∨ v = 1 then some (.inr (some (.int v), M)) else none
  | 2, [.long v] => some (.inr (some (.long v), M))
  | 3, [v] => if isRf v = true then some (.inr (some v, M)) else none
  | 4, [] => some (.inr (none, M))
  | _, _ => none
def nx (cf : Nat → List Value → AM → Option AR) (i : Instr) (len : Nat) (ax : List Nat) (cst : Value) (pc : Nat) (L st : List Value) (M : AM) : NX := match i with
  | .iconst _ => some (.inl (pc + len, L, cst :: st, M))
  | .bipush _ => some (.inl (pc + len, L, cst :: st, M))
  | .sipush _ => some (.inl (pc + len, L, cst :: st, M))
  | .lconst _ => some (.inl (pc + len, L, cst :: st, M))
  | .ldc _ => some (.inl (pc + len, L, cst :: st, M))
  | .ldc_w _ => some (.inl (pc + len, L, cst :: st, M))
  | .ldc2_w _ => some (.inl (pc + len, L, cst :: st, M))
  | .aconst_null => some (.inl (pc + len, L, .null :: st, M))
  | .iload_n k => nx_ld 0 k.val (pc + len) L st M
  | .iload k => nx_ld 0 k (pc + len) L st M
  | .lload_n k => nx_ld 1 k.val (pc + len) L st M
  | .lload k => nx_ld 1 k (pc + len) L st M
  | .aload_n k => nx_ld 2 k.val (pc + len) L st M
  | .aload k => nx_ld 2 k (pc + len) L st M
  | .istore_n k => nx_st 0 k.val (pc + len) L st M
  | .istore k => nx_st 0 k (pc + len) L st M
  | .lstore_n k => nx_st 1 k.val (pc + len) L st M
  | .lstore k => nx_st 1 k (pc + len) L st M
  | .astore_n k => nx_st 2 k.val (pc + len) L st M
  | .astore k => nx_st 2 k (pc + len) L st M
  | .iinc k _ => match L[k]?, cst with
    | some (.int x), .int n => if k < L.length then some (.inl (pc + len, st1 L k (.int (x + n)), st, M)) else none
    | _, _ => none
  | .iadd => nx_2 (fun x y => x + y) (pc + len) L st M
  | .isub => nx_2 (fun x y => x - y) (pc + len) L st M
  | .imul => nx_2 (fun x y => x * y) (pc + len) L st M
  | .iand => nx_2 (fun x y => x &&& y) (pc + len) L st M
  | .ior => nx_2 (fun x y => x ||| y) (pc + len) L st M
  | .ixor => nx_2 (fun x y => x ^^^ y) (pc + len) L st M
  | .ishl => nx_2 (fun x y => x <<< (y &&& 31)) (pc + len) L st M
  | .ishr => nx_2 (fun x y => x >>> (y &&& 31)) (pc + len) L st M
  | .iushr => nx_2 (fun x y => (x.toUInt32 >>> (y.toUInt32 &&& Int32.toUInt32 31)).toInt32) (pc + len) L st M
  | .idiv => nx_2d (fun x y => x / y) (pc + len) L st M
  | .irem => nx_2d (fun x y => x - x / y * y) (pc + len) L st M
  | .ladd => nx_l2 (fun x y => x + y) (pc + len) L st M
  | .lsub => nx_l2 (fun x y => x - y) (pc + len) L st M
  | .lmul => nx_l2 (fun x y => x * y) (pc + len) L st M
  | .land => nx_l2 (fun x y => x &&& y) (pc + len) L st M
  | .lor => nx_l2 (fun x y => x ||| y) (pc + len) L st M
  | .ldiv => nx_l2d (fun x y => x / y) (pc + len) L st M
  | .lrem => nx_l2d (fun x y => x - x / y * y) (pc + len) L st M
  | .lshl => match st with
    | .int y :: .long x :: r => some (.inl (pc + len, L, .long (x <<< (y.toInt64 &&& 63)) :: r, M))
    | _ => none
  | .lcmp => match st with
    | .long y :: .long x :: r => some (.inl (pc + len, L, .int (lg_cmp x y) :: r, M))
    | _ => none
  | .ineg => nx_1 (fun x => .int (-x)) (pc + len) L st M
  | .i2l => nx_1 (fun x => .long x.toInt64) (pc + len) L st M
  | .i2b => nx_1 (fun x => .int x.toInt8.toInt32) (pc + len) L st M
  | .i2s => nx_1 (fun x => .int x.toInt16.toInt32) (pc + len) L st M
  | .l2i => match st with
    | .long x :: r => some (.inl (pc + len, L, .int x.toInt32 :: r, M))
    | _ => none
  | .pop => match st with
    | v :: r => if is2 v = true then none else some (.inl (pc + len, L, r, M))
    | _ => none
  | .dup => match st with
    | v :: r => if is2 v = true then none else some (.inl (pc + len, L, v :: v :: r, M))
    | _ => none
  | .dup_x1 => match st with
    | v :: w :: r => if is2 v = true ∨ is2 w = true then none else some (.inl (pc + len, L, v :: w :: v :: r, M))
    | _ => none
  | .dup2 => match st with
    | v :: w :: r => if is2 v = true ∨ is2 w = true then none else some (.inl (pc + len, L, v :: w :: v :: w :: r, M))
    | _ => none
  | .ifCond c _ => nx_if c (ax.headD 0) (pc + len) L st M
  | .if_icmp c _ => nx_ic c (ax.headD 0) (pc + len) L st M
  | .ifnull _ => nx_nul true (ax.headD 0) (pc + len) L st M
  | .ifnonnull _ => nx_nul false (ax.headD 0) (pc + len) L st M
  | .goto _ => some (.inl (ax.headD 0, L, st, M))
  | .tableswitch _ lo hi _ => nx_tsw lo hi ax L st M
  | .lookupswitch _ ps => match st with
    | .int x :: r => match nx_lsw ps.toList ax x.toInt with
      | some t => some (.inl (t, L, r, M))
      | none => none
    | _ => none
  | .getfield _ => match ax with
    | ci :: k :: _ => nx_gf ci k (pc + len) L st M
    | _ => none
  | .putfield _ => match ax with
    | ci :: k :: tc :: _ => nx_pf ci k tc (pc + len) L st M
    | _ => none
  | .iaload => nx_al ldI (pc + len) L st M
  | .laload => nx_al ldJ (pc + len) L st M
  | .aaload => nx_al ldQ (pc + len) L st M
  | .iastore => nx_is (pc + len) L st M
  | .lastore => nx_js (pc + len) L st M
  | .aastore => nx_qs (pc + len) L st M
  | .arraylength => nx_len (pc + len) L st M
  | .new _ => match ax with
    | ci :: _ => nx_new ci (dflA ci) (pc + len) L st M
    | _ => none
  | .newarray .int => nx_na 0 (pc + len) L st M
  | .newarray .long => nx_na 1 (pc + len) L st M
  | .anewarray _ => match ax with
    | t :: _ => nx_na t (pc + len) L st M
    | _ => none
  | .multianewarray _ _ => nx_mna (pc + len) L st M
  | .invokespecial _ => match ax with
    | 0 :: _ => nx_oi (pc + len) L st M
    | 1 :: ci :: y :: n :: _ => nx_inv cf true ci y n (pc + len) L st M
    | _ => none
  | .invokevirtual _ => match ax with
    | ci :: y :: n :: _ => nx_inv cf true ci y n (pc + len) L st M
    | _ => none
  | .invokestatic _ => match ax with
    | 0 :: _ => nx_cpy (pc + len) L st M
    | 1 :: y :: n :: _ => nx_inv cf false 0 y n (pc + len) L st M
    | _ => none
  | .ireturn => match ax with
    | t :: _ => if t < 2 then nx_end t st M else none
    | _ => none
  | .lreturn => nx_end 2 st M
  | .areturn => nx_end 3 st M
  | .return_ => nx_end 4 st M
  | _ => none
