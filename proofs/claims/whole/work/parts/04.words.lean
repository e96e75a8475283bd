/-! each instruction of the tables against the bytes, and what it links against the words -/
def eqW (p : Nat) (w : Cond) : Bool := decide (wsL_law[p]? = some w)
def cNm (ci : Nat) : String := match clA[ci]? with
  | some (C, _, _) => C
  | none => ""
def cN (ci : Nat) : Nat := match clA[ci]? with
  | some (_, _, n) => n
  | none => 0
def cT (ci k : Nat) : String × String × String × Bool := match clA[ci]? with
  | some (_, T, _) => T k
  | none => ("", "", "", true)
def tcO (d : String) : Nat := if d = "I" then 0 else if d = "Z" then 1 else 2
def mdN (y : Nat) : MethodName := match mdf y with
  | some (n, _) => n
  | none => ⟨"", "", ""⟩
def mdB (y : Nat) : ByteArray := match mdf y with
  | some (_, b, _) => b
  | none => ⟨#[]⟩
def mdL (y : Nat) : Nat := match mdf y with
  | some (_, _, n, _) => n
  | none => 0
def mdR (y : Nat) : Option FieldType := match mdf y with
  | some (_, _, _, r, _) => r
  | none => none
def mdP (y : Nat) : Nat := match mdf y with
  | some (_, _, _, _, p, _) => p
  | none => 9999
def mdO (y : Nat) : String := match mdf y with
  | some (_, _, _, _, _, o) => o
  | none => ""
/-- the words of the strings' two methods -/
def spN (y : Nat) : MethodName := if y = 300 then yJ0_length_8abf5 else if y = 301 then yJ0_charAt_5068e else mdN y
def strX : List String := ["friday", "likes", "loss", "pair", "part", "pupil", "toil"]
def spB (y : Nat) : ByteArray := if y = 300 then cJ0_length_8abf5 else if y = 301 then cJ0_charAt_5068e else mdB y
def spL (y : Nat) : Nat := if y = 300 then 1 else if y = 301 then 2 else mdL y
def spR (y : Nat) : Option FieldType := if y = 300 then some .int else if y = 301 then some .char else mdR y
def spP (y : Nat) : Nat := if y = 300 then 473 else if y = 301 then 484 else mdP y
def strW : List (String × Nat × Nat) := [(RX4, 45, 5), (RX4, 54, 1), (RX4, 59, 3), (RX4, 64, 4), (RX4, 69, 2), (RX4, 79, 6), (RX4, 83, 0), (RX6, 200, 5), (RX6, 206, 1), (RX6, 208, 3), (RX6, 214, 4), (RX6, 216, 2), (RX6, 221, 6), (RX6, 223, 0)]
def lkE (own : String) (rt : Option FieldType) (ini : Bool) (pc : Nat) (e : En) : Bool := match e with
  | (.iconst n, l, _, c) => decide (l = 1) && decide (c = .int (Int32.ofInt n))
  | (.bipush n, l, _, c) => decide (l = 2) && decide (c = .int (Int8.ofInt n).toInt32)
  | (.sipush n, l, _, c) => decide (l = 3) && decide (c = .int (Int16.ofInt n).toInt32)
  | (.lconst n, l, _, c) => decide (l = 1) && decide (c = .long (Int64.ofNat (n : Nat)))
  | (.ldc k, l, p :: _, .int v) => decide (l = 2) && eqW p (.constant own k v)
  | (.ldc k, l, j :: _, .ref a) => decide (l = 2) && (match strW[j]? with
    | some (o, i, t) => decide (o = own) && decide (i = k) && decide (a = 1000001 + t) && decide (t < 7)
    | none => false)
  | (.ldc_w k, l, p :: _, .int v) => decide (l = 3) && eqW p (.constant own k v)
  | (.ldc2_w k, l, p :: _, .long v) => decide (l = 3) && eqW p (.constantLong own k v)
  | (.aconst_null, l, _, _) => decide (l = 1)
  | (.iload_n _, l, _, _) => decide (l = 1)
  | (.iload _, l, _, _) => decide (l = 2)
  | (.lload_n _, l, _, _) => decide (l = 1)
  | (.lload _, l, _, _) => decide (l = 2)
  | (.aload_n _, l, _, _) => decide (l = 1)
  | (.aload _, l, _, _) => decide (l = 2)
  | (.istore_n _, l, _, _) => decide (l = 1)
  | (.istore _, l, _, _) => decide (l = 2)
  | (.lstore_n _, l, _, _) => decide (l = 1)
  | (.lstore _, l, _, _) => decide (l = 2)
  | (.astore_n _, l, _, _) => decide (l = 1)
  | (.astore _, l, _, _) => decide (l = 2)
  | (.iinc _ n, l, _, c) => decide (l = 3) && decide (c = .int (Int32.ofInt n))
  | (.ifCond _ off, l, ax, _) => decide (l = 3) && decide ((pc : Int) + off = ((ax.headD 0 : Nat) : Int))
  | (.if_icmp _ off, l, ax, _) => decide (l = 3) && decide ((pc : Int) + off = ((ax.headD 0 : Nat) : Int))
  | (.ifnull off, l, ax, _) => decide (l = 3) && decide ((pc : Int) + off = ((ax.headD 0 : Nat) : Int))
  | (.ifnonnull off, l, ax, _) => decide (l = 3) && decide ((pc : Int) + off = ((ax.headD 0 : Nat) : Int))
  | (.goto off, l, ax, _) => decide (l = 3) && decide ((pc : Int) + off = ((ax.headD 0 : Nat) : Int))
  | (.tableswitch d _ _ offs, _, ax, _) => decide (ax.map (fun t : Nat => (t : Int)) = (d :: offs.toList).map (fun o => (pc : Int) + o))
  | (.lookupswitch d ps, _, ax, _) => decide (ax.map (fun t : Nat => (t : Int)) = ps.toList.map (fun q => (pc : Int) + q.2) ++ [(pc : Int) + d]) && (ps.toList.zip (ps.toList.drop 1)).all (fun (a, next) => a.1 < next.1)
  | (.getfield k, l, ci :: f :: p :: _, _) => decide (l = 3) && decide (f < cN ci) && decide (ci < 7) && decide ((cT ci f).1 = cNm ci) && eqW p (.fieldLink own k (cT ci f).1 (cT ci f).2.1 (cT ci f).2.2.1)
  | (.putfield k, l, ci :: f :: tc :: p :: fin :: _, _) => decide (l = 3) && decide (f < cN ci) && decide (ci < 7) && decide ((cT ci f).1 = cNm ci) && eqW p (.fieldLink own k (cT ci f).1 (cT ci f).2.1 (cT ci f).2.2.1) && decide (tc = tcO (cT ci f).2.2.1) && (if (cT ci f).2.2.2 = true then ini && decide ((cT ci f).1 = own) && decide (fin = 1) else decide (fin = 0))
  | (.new k, l, ci :: p1 :: p2 :: p3 :: _, _) => decide (l = 3) && decide (ci < 7) && eqW p1 (.classLink own k (cNm ci)) && eqW p2 (.instantiable (cNm ci) (cN ci)) && eqW p3 (.initialized (cNm ci))
  | (.newarray t, l, p :: _, _) => decide (l = 2) && (match t with
    | .int => eqW p (.arrayClass .int)
    | .long => eqW p (.arrayClass .long)
    | _ => false)
  | (.anewarray k, l, t :: p :: _, _) => decide (l = 3) && (decide (t = 2) || decide (t = 3)) && eqW p (.classLink own k (cNm (elc t)))
  | (.multianewarray k dm, l, p :: p2 :: _, _) => decide (l = 4) && decide (dm = 2) && eqW p (.classLink own k ("[" ++ (FieldType.array .long).toString)) && eqW p2 (.arrayClass .long)
  | (.invokespecial k, l, 0 :: p1 :: p2 :: p3 :: _, _) => decide (l = 3) && eqW p1 (.methodLink own k objectInit) && eqW p2 (.instanceMethod objectInit) && eqW p3 (.code objectInit ⟨#[0xb1]⟩ 1 none)
  | (.invokespecial k, l, 1 :: ci :: y :: n :: p1 :: p2 :: p3 :: _, _) => decide (l = 3) && decide (0 < y) && decide (y < 245) && eqW p1 (.methodLink own k (mdN y)) && eqW p2 (.instanceMethod (mdN y)) && eqW p3 (.initialized (mdN y).cls) && decide ((mdN y).cls = cNm ci) && decide (ci < 7) && decide ((mdN y).name = "<init>") && decide (mdR y = none) && decide ((parseMethodDescriptor (mdN y).desc).map (fun d => d.parameters.length + 1) = some n)
  | (.invokevirtual k, l, ci :: y :: n :: p1 :: p2 :: p3 :: p4 :: _, _) => decide (l = 3) && decide (0 < y) && decide (y < 245 ∨ y = 300 ∨ y = 301) && eqW p1 (.methodLink own k (spN y)) && eqW p2 (.instanceMethod (spN y)) && eqW p3 (.selects (spN y).cls (spN y) (spN y)) && eqW p4 (.initialized (spN y).cls) && decide ((spN y).cls = if ci = 90 then "java/lang/String" else cNm ci) && decide (ci < 7 ∨ ci = 90) && decide (ci = 90 ↔ 300 ≤ y) && decide ((parseMethodDescriptor (spN y).desc).map (fun d => d.parameters.length + 1) = some n)
  | (.invokestatic k, l, 0 :: p1 :: p2 :: p3 :: p4 :: _, _) => decide (l = 3) && eqW p1 (.methodLink own k arraycopyName) && eqW p2 (.native arraycopyName) && eqW p3 (.static arraycopyName) && eqW p4 (.initialized "java/lang/System")
  | (.invokestatic k, l, 1 :: y :: n :: p1 :: p2 :: p3 :: _, _) => decide (l = 3) && decide (0 < y) && decide (y < 245) && eqW p1 (.methodLink own k (mdN y)) && eqW p2 (.static (mdN y)) && eqW p3 (.initialized (mdN y).cls) && decide ((parseMethodDescriptor (mdN y).desc).map (fun d => d.parameters.length) = some n)
  | (.ireturn, l, t :: _, _) => decide (l = 1) && (if t = 0 then decide (rt = some .int) else decide (rt = some .boolean))
  | (.lreturn, l, _, _) => decide (l = 1) && decide (rt = some .long)
  | (.areturn, l, _, _) => decide (l = 1) && (match rt with
    | some (.object _) => true
    | _ => false)
  | (.return_, l, _, _) => decide (l = 1) && decide (rt = none)
  | (.iadd, l, _, _) => decide (l = 1)
  | (.isub, l, _, _) => decide (l = 1)
  | (.imul, l, _, _) => decide (l = 1)
  | (.iand, l, _, _) => decide (l = 1)
  | (.ior, l, _, _) => decide (l = 1)
  | (.ixor, l, _, _) => decide (l = 1)
  | (.ishl, l, _, _) => decide (l = 1)
  | (.ishr, l, _, _) => decide (l = 1)
  | (.iushr, l, _, _) => decide (l = 1)
  | (.idiv, l, _, _) => decide (l = 1)
  | (.irem, l, _, _) => decide (l = 1)
  | (.ladd, l, _, _) => decide (l = 1)
  | (.lsub, l, _, _) => decide (l = 1)
  | (.lmul, l, _, _) => decide (l = 1)
  | (.land, l, _, _) => decide (l = 1)
  | (.lor, l, _, _) => decide (l = 1)
  | (.ldiv, l, _, _) => decide (l = 1)
  | (.lrem, l, _, _) => decide (l = 1)
  | (.lshl, l, _, _) => decide (l = 1)
  | (.lcmp, l, _, _) => decide (l = 1)
  | (.ineg, l, _, _) => decide (l = 1)
  | (.i2l, l, _, _) => decide (l = 1)
  | (.i2b, l, _, _) => decide (l = 1)
  | (.i2s, l, _, _) => decide (l = 1)
  | (.l2i, l, _, _) => decide (l = 1)
  | (.pop, l, _, _) => decide (l = 1)
  | (.dup, l, _, _) => decide (l = 1)
  | (.dup_x1, l, _, _) => decide (l = 1)
  | (.dup2, l, _, _) => decide (l = 1)
  | (.iaload, l, _, _) => decide (l = 1)
  | (.laload, l, _, _) => decide (l = 1)
  | (.aaload, l, _, _) => decide (l = 1)
  | (.iastore, l, _, _) => decide (l = 1)
  | (.lastore, l, _, _) => decide (l = 1)
  | (.aastore, l, _, _) => decide (l = 1)
  | (.arraylength, l, _, _) => decide (l = 1)
  | _ => false
def chE (y : Nat) (q : Nat × En) : Bool := decide (decode (mdB y) q.1 = .ok (q.2.1, q.2.2.1)) && lkE (mdO y) (mdR y) (decide ((mdN y).name = "<init>")) q.1 q.2
def chM (y : Nat) : Bool := eqW (spP y) (.code (spN y) (spB y) (spL y) (spR y)) && plainName (spN y).cls && decide ((spN y).cls ≠ "java/lang/invoke/MethodHandle") && decide ((spN y).cls ≠ "java/lang/invoke/VarHandle") && decide (spL y ≤ 40) && decide (mdO y = (mdN y).cls)
