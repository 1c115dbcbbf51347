/-! 03: the small machine: what an instruction asks (stp), the least predicate that is closed under it (wp), and a method's contract (CM) -/
/-- globals: launch, places of classes and fields, classes of arrays, the first own address, static arrays, arrays that are only read -/
abbrev bkG : Type := Launch × va_G × (Nat → ClassId) × Nat × (Nat → Nat) × (Nat → Option (Nat × (Nat → Int32)))
abbrev gl (G : bkG) : Launch := G.1
abbrev gD (G : bkG) : va_G := G.2.1
abbrev gA (G : bkG) : Nat → ClassId := G.2.2.1
abbrev gB (G : bkG) : Nat := G.2.2.2.1
abbrev gS (G : bkG) : Nat → Nat := G.2.2.2.2.1
abbrev gR (G : bkG) : Nat → Option (Nat × (Nat → Int32)) := G.2.2.2.2.2
abbrev bkV : Type := Nat → List (Option Value) → List Value → bkHS → Option Nat → Nat → Nat → Prop
abbrev bkPo : Type := bkRes → bkHS → Option Nat → Prop
abbrev eO (c : Nat) (fs : List Value) : bkE := .inl (c, fs)
abbrev eI (n : Nat) (f : Nat → Int32) : bkE := .inr (.inl (n, f))
abbrev eL (n : Nat) (f : Nat → Int64) : bkE := .inr (.inr (.inl (n, f)))
abbrev eC (n : Nat) (f : Nat → Int32) : bkE := .inr (.inr (.inr (.inl (n, f))))
abbrev eD (n : Nat) (f : Nat → UInt64) : bkE := .inr (.inr (.inr (.inr (.inl (n, f)))))
abbrev eQ (n : Nat) (f : Nat → Option Nat) : bkE := .inr (.inr (.inr (.inr (.inr (n, f)))))
def wr (h : bkHS) (a : Nat) (e : bkE) : bkHS := fun q => if q = a then some e else h q
-- looks at entries
def fOk (o : Option bkE) (ci k : Nat) : Bool := match o with
  | some (.inl (c, fs)) => c == ci && decide (k < fs.length)
  | _ => false
def fGet (o : Option bkE) (k : Nat) : Value := match o with
  | some (.inl (_, fs)) => fs.getD k .null
  | _ => .null
def fSet (o : Option bkE) (k : Nat) (v : Value) : bkE := match o with
  | some (.inl (c, fs)) => .inl (c, fs.set k v)
  | _ => .inl (0, [])
def rI (G : bkG) (h : bkHS) (a : Nat) : Option (Nat × (Nat → Int32)) := match h a with
  | some (.inr (.inl q)) => some q
  | some _ => none
  | none => gR G a
def rIw (o : Option bkE) : Option (Nat × (Nat → Int32)) := match o with
  | some (.inr (.inl q)) => some q
  | _ => none
def rL (o : Option bkE) : Option (Nat × (Nat → Int64)) := match o with
  | some (.inr (.inr (.inl q))) => some q
  | _ => none
def rC (o : Option bkE) : Option (Nat × (Nat → Int32)) := match o with
  | some (.inr (.inr (.inr (.inl q)))) => some q
  | _ => none
def rD (o : Option bkE) : Option (Nat × (Nat → UInt64)) := match o with
  | some (.inr (.inr (.inr (.inr (.inl q))))) => some q
  | _ => none
def rQ (o : Option bkE) : Option (Nat × (Nat → Option Nat)) := match o with
  | some (.inr (.inr (.inr (.inr (.inr q))))) => some q
  | _ => none
def bkIn {α : Type} (o : Option (Nat × (Nat → α))) (i : Int32) : Prop := match o with
  | some q => vp_in i q.1
  | none => False
def bkEl {α : Type} (o : Option (Nat × (Nat → α))) (i : Int32) (d : α) : α := match o with
  | some q => q.2 i.toNatClampNeg
  | none => d
def bkUp {α : Type} (o : Option (Nat × (Nat → α))) (i : Int32) (x : α) : Nat × (Nat → α) := match o with
  | some q => (q.1, va_up q.2 i.toNatClampNeg x)
  | none => (0, fun _ => x)
-- looks at locals and stack
def ldI (lv : List (Option Value)) (i : Nat) (f : Int32 → Prop) : Prop := match lv[i]? with
  | some (some (.int x)) => f x
  | _ => False
def ldL (lv : List (Option Value)) (i : Nat) (f : Int64 → Prop) : Prop := match lv[i]? with
  | some (some (.long x)) => f x
  | _ => False
def ldD (lv : List (Option Value)) (i : Nat) (f : UInt64 → Prop) : Prop := match lv[i]? with
  | some (some (.double x)) => f x
  | _ => False
def ldR (lv : List (Option Value)) (i : Nat) (f : Nat → Prop) : Prop := match lv[i]? with
  | some (some (.ref x)) => f x
  | _ => False
def pI (st : List Value) (f : Int32 → List Value → Prop) : Prop := match st with
  | .int x :: r => f x r
  | _ => False
def pL (st : List Value) (f : Int64 → List Value → Prop) : Prop := match st with
  | .long x :: r => f x r
  | _ => False
def pD (st : List Value) (f : UInt64 → List Value → Prop) : Prop := match st with
  | .double x :: r => f x r
  | _ => False
def pR (st : List Value) (f : Nat → List Value → Prop) : Prop := match st with
  | .ref x :: r => f x r
  | _ => False
def pV (st : List Value) (f : Value → List Value → Prop) : Prop := match st with
  | x :: r => f x r
  | _ => False
/-- y over x -/
def pII (st : List Value) (f : Int32 → Int32 → List Value → Prop) : Prop := pI st fun y r => pI r fun x r => f x y r
def pLL (st : List Value) (f : Int64 → Int64 → List Value → Prop) : Prop := pL st fun y r => pL r fun x r => f x y r
def pDD (st : List Value) (f : UInt64 → UInt64 → List Value → Prop) : Prop := pD st fun y r => pD r fun x r => f x y r
def pIR (st : List Value) (f : Int32 → Nat → List Value → Prop) : Prop := pI st fun i r => pR r fun a r => f i a r
/-- a local of two words that a store behind it ends -/
def kl (o : Option Value) : Option Value := match o with
  | some (.long _) => none
  | some (.double _) => none
  | o => o
def klA (lv : List (Option Value)) (i : Nat) : List (Option Value) := match i with
  | 0 => lv
  | j + 1 => match lv[j]? with
    | some o => lv.set j (kl o)
    | none => lv
def sto (lv : List (Option Value)) (i : Nat) (v : Value) : List (Option Value) := (klA lv i).set i (some v)
def sto2 (lv : List (Option Value)) (i : Nat) (v : Value) : List (Option Value) := ((klA lv i).set i (some v)).set (i + 1) none
def cats (st : List Value) : Nat := (st.map fun v => v.category).sum
def bkC (c : ClassFile.Cond) (x y : Int32) : Prop := match c with
  | .eq => x = y
  | .ne => ¬ x = y
  | .lt => x < y
  | .ge => y ≤ x
  | .gt => y < x
  | .le => x ≤ y
def bkSw (dflt lo hi : Int) (offs : Array Int) (x : Int32) : Int := if x.toInt < lo ∨ hi < x.toInt then dflt else (offs[(x.toInt - lo).toNat]?).getD dflt
def bkHan (hh : List (Nat × Nat × Nat × Nat)) (o pc e : Nat) : Option Nat := match hh with
  | [] => none
  | (a, b, hp, ci) :: r => if a ≤ pc ∧ pc < b then (if ci = 0 then none else match bkLk o ci with
    | some (.inr (.inr (.inr (.inl (e2, _))))) => if e2 = e then some hp else if bkNcs.contains (e, e2) = true then bkHan r o pc e else none
    | _ => none) else bkHan r o pc e
/-- the end with an exception, or its handler -/
def bkX (M : bkM) (Post : bkPo) (K : bkV) (pc : Nat) (lv : List (Option Value)) (e : Nat) (h : bkHS) (k n : Nat) : Prop := match mH M with
  | [] => k ≤ mC M ∧ n ≤ mS M ∧ Post (.inr e) h none
  | hh => match bkHan hh (mO M) pc e with
    | some hp => ∀ q : Nat, K hp lv [.ref q] h none k n
    | none => False
/-- behind a call -/
def bkK (M : bkM) (Post : bkPo) (K : bkV) (pc : Nat) (lv : List (Option Value)) (rest : List Value) (k n : Nat) : bkPo := fun r h z => match r with
  | .inl v => K (pc + 3) lv (v.toList ++ rest) h z k n
  | .inr e => bkX M Post K pc lv e h k n
def bkCt (M : bkM) : Bool := (mY M).name == "<init>"
/-- a static method, by its descriptor -/
def bkIsS (M : bkM) : Bool := decide ((parseMethodDescriptor (mY M).desc).map (fun d => d.parameters.length) = some (mN M))
/-- new X; dup; ldc; X.<init>; athrow -/
def bkPat (M : bkM) (pc ic : Nat) : Bool :=
  (match decode (mB M) (pc + 3) with | .ok (.dup, 1) => true | _ => false) &&
  ((match decode (mB M) (pc + 4) with
    | .ok (.ldc is, 2) => bkStr.any (fun q => q.1 == mO M && q.2.1 == is) && (match decode (mB M) (pc + 6) with | .ok (.invokespecial j, 3) => j == ic | _ => false) && (match decode (mB M) (pc + 9) with | .ok (.athrow, 1) => true | _ => false)
    | .ok (.ldc_w is, 3) => bkStr.any (fun q => q.1 == mO M && q.2.1 == is) && (match decode (mB M) (pc + 7) with | .ok (.invokespecial j, 3) => j == ic | _ => false) && (match decode (mB M) (pc + 10) with | .ok (.athrow, 1) => true | _ => false)
    | _ => false))
def bkDf (ci : Nat) : List Value := match bkCl[ci]? with
  | some (_, _, N) => (List.range N).map fun k => defaultValue (bkTy ci k)
  | none => []
def bkFi (M : bkM) (ci k : Nat) : Bool := match bkCl[ci]? with
  | some (C, T, _) => (T k).2.2.2 == false || ((mY M).name == "<init>" && C == bkRN (mO M) && (T k).1 == bkRN (mO M))
  | none => false
def bkOkV (ty : FieldType) (v : Value) : Prop := narrow ty v = v ∧ fits ty v = true
def lenOK (i : Instr) (len : Nat) : Bool := match i with
  | .aload _ | .iload _ | .lload _ | .dload _ | .istore _ | .astore _ | .lstore _ | .dstore _ | .bipush _ | .ldc _ | .newarray _ => len == 2
  | .sipush _ | .ldc_w _ | .ldc2_w _ | .iinc _ _ | .goto _ | .if_icmp _ _ | .ifCond _ _ | .getfield _ | .putfield _ | .getstatic _ | .new _ | .anewarray _ | .invokevirtual _ | .invokespecial _ | .invokestatic _ => len == 3
  | .tableswitch .. | .lookupswitch .. => true
  | _ => len == 1
/-- a jump -/
def bkJ (pc : Nat) (off : Int) (f : Nat → Prop) : Prop := 0 ≤ (pc : Int) + off ∧ f ((pc : Int) + off).toNat
def bkRt (t : Option FieldType) (x : Int32) : Prop := match t with
  | some .int => True
  | some .boolean => x = 0 ∨ x = 1
  | _ => False
def bkCall (CC : bkM → List Value → bkHS → Option Nat → bkPo → Prop) (M : bkM) (Post : bkPo) (K : bkV) (pc : Nat) (lv : List (Option Value)) (st : List Value) (h : bkHS) (z : Option Nat) (k n : Nat) (M' : bkM) : Prop :=
  mV M' < mV M ∧ mL M' ≤ 20 ∧ mN M' ≤ st.length ∧ cats (st.drop (mN M')) ≤ 8 ∧ k + mC M' ≤ mC M ∧ n + mS M' ≤ mS M ∧
    CC M' (st.take (mN M')).reverse h (if bkCt M' = true then z else none) (bkK M Post K pc lv (st.drop (mN M')) (k + mC M') (n + mS M'))
/-- the receiver's class is the method's -/
def bkRcv (st : List Value) (h : bkHS) (M' : bkM) : Prop := match st[mN M' - 1]? with
  | some (.ref a) => match h a with
    | some (.inl (c, _)) => match bkCl[c]? with
      | some (C, _, _) => C = (mY M').cls
      | none => False
    | _ => False
  | _ => False
section
variable (G : bkG) (CC : bkM → List Value → bkHS → Option Nat → bkPo → Prop) (M : bkM) (Post : bkPo)
def stpA (i : Instr) (pc len : Nat) (lv : List (Option Value)) (st : List Value) (h : bkHS) (z : Option Nat) (k n : Nat) (K : bkV) : Prop :=
  match i with
  | .aload j => ldR lv j fun a => K (pc + len) lv (.ref a :: st) h z k n
  | .aload_n j => ldR lv j.val fun a => K (pc + len) lv (.ref a :: st) h z k n
  | .iload j => ldI lv j fun a => K (pc + len) lv (.int a :: st) h z k n
  | .iload_n j => ldI lv j.val fun a => K (pc + len) lv (.int a :: st) h z k n
  | .lload j => ldL lv j fun a => K (pc + len) lv (.long a :: st) h z k n
  | .lload_n j => ldL lv j.val fun a => K (pc + len) lv (.long a :: st) h z k n
  | .dload j => ldD lv j fun a => K (pc + len) lv (.double a :: st) h z k n
  | .dload_n j => ldD lv j.val fun a => K (pc + len) lv (.double a :: st) h z k n
  | .istore j => pI st fun x r => j < lv.length ∧ K (pc + len) (sto lv j (.int x)) r h z k n
  | .istore_n j => pI st fun x r => j.val < lv.length ∧ K (pc + len) (sto lv j.val (.int x)) r h z k n
  | .astore j => pR st fun x r => j < lv.length ∧ K (pc + len) (sto lv j (.ref x)) r h z k n
  | .astore_n j => pR st fun x r => j.val < lv.length ∧ K (pc + len) (sto lv j.val (.ref x)) r h z k n
  | .lstore j => pL st fun x r => j + 1 < lv.length ∧ K (pc + len) (sto2 lv j (.long x)) r h z k n
  | .lstore_n j => pL st fun x r => j.val + 1 < lv.length ∧ K (pc + len) (sto2 lv j.val (.long x)) r h z k n
  | .dstore j => pD st fun x r => j + 1 < lv.length ∧ K (pc + len) (sto2 lv j (.double x)) r h z k n
  | .dstore_n j => pD st fun x r => j.val + 1 < lv.length ∧ K (pc + len) (sto2 lv j.val (.double x)) r h z k n
  | .iinc j c => ldI lv j fun x => K (pc + len) (sto lv j (.int (x + Int32.ofInt c))) st h z k n
  | .iconst c => K (pc + len) lv (.int (Int32.ofInt c) :: st) h z k n
  | .bipush c => K (pc + len) lv (.int (Int8.ofInt c).toInt32 :: st) h z k n
  | .sipush c => K (pc + len) lv (.int (Int16.ofInt c).toInt32 :: st) h z k n
  | .lconst c => K (pc + len) lv (.long (Int64.ofNat c.val) :: st) h z k n
  | .iadd => pII st fun x y r => K (pc + len) lv (.int (x + y) :: r) h z k n
  | .isub => pII st fun x y r => K (pc + len) lv (.int (x - y) :: r) h z k n
  | .imul => pII st fun x y r => K (pc + len) lv (.int (x * y) :: r) h z k n
  | .idiv => pII st fun x y r => ¬ y = 0 ∧ K (pc + len) lv (.int (x / y) :: r) h z k n
  | .irem => pII st fun x y r => ¬ y = 0 ∧ K (pc + len) lv (.int (x - x / y * y) :: r) h z k n
  | .ineg => pI st fun x r => K (pc + len) lv (.int (-x) :: r) h z k n
  | .ishl => pII st fun x y r => K (pc + len) lv (.int (x <<< (y &&& 31)) :: r) h z k n
  | .ishr => pII st fun x y r => K (pc + len) lv (.int (x >>> (y &&& 31)) :: r) h z k n
  | .iushr => pII st fun x y r => K (pc + len) lv (.int (x.toUInt32 >>> (y.toUInt32 &&& Int32.toUInt32 31)).toInt32 :: r) h z k n
  | .iand => pII st fun x y r => K (pc + len) lv (.int (x &&& y) :: r) h z k n
  | .ior => pII st fun x y r => K (pc + len) lv (.int (x ||| y) :: r) h z k n
  | .ixor => pII st fun x y r => K (pc + len) lv (.int (x ^^^ y) :: r) h z k n
  | .ladd => pLL st fun x y r => K (pc + len) lv (.long (x + y) :: r) h z k n
  | .lsub => pLL st fun x y r => K (pc + len) lv (.long (x - y) :: r) h z k n
  | .lmul => pLL st fun x y r => K (pc + len) lv (.long (x * y) :: r) h z k n
  | .lcmp => pLL st fun x y r => K (pc + len) lv (.int (lg_cmp x y) :: r) h z k n
  | .i2l => pI st fun x r => K (pc + len) lv (.long x.toInt64 :: r) h z k n
  | .l2i => pL st fun x r => K (pc + len) lv (.int x.toInt32 :: r) h z k n
  | .i2c => pI st fun x r => K (pc + len) lv (.int (x.toUInt32 % 65536).toInt32 :: r) h z k n
  | .i2d => pI st fun x r => K (pc + len) lv (.double (FP.i2d x) :: r) h z k n
  | .l2d => pL st fun x r => K (pc + len) lv (.double (FP.l2d x) :: r) h z k n
  | .dmul => pDD st fun x y r => vf_n64 (FP.dmul x y) ∧ K (pc + len) lv (.double (FP.dmul x y) :: r) h z k n
  | .ddiv => pDD st fun x y r => vf_n64 (FP.ddiv x y) ∧ K (pc + len) lv (.double (FP.ddiv x y) :: r) h z k n
  | .dsub => pDD st fun x y r => vf_n64 (FP.dsub x y) ∧ K (pc + len) lv (.double (FP.dsub x y) :: r) h z k n
  | .dcmp op => pDD st fun x y r => K (pc + len) lv (.int (Op.cmpValue (FP.dcmp x y) op) :: r) h z k n
  | .dconst c => if c = 0 then K (pc + len) lv (.double FP.dconst0 :: st) h z k n else if c = 1 then K (pc + len) lv (.double FP.dconst1 :: st) h z k n else False
  | .dup => pV st fun v r => v.category = 1 ∧ K (pc + len) lv (v :: v :: r) h z k n
  | .dup2 => pV st fun v r => pV r fun w r => v.category = 1 ∧ w.category = 1 ∧ K (pc + len) lv (v :: w :: v :: w :: r) h z k n
  | .goto off => bkJ pc off fun t => K t lv st h z k n
  | .if_icmp c off => pII st fun x y r => bkJ pc off fun t => (bkC c x y → K t lv r h z k n) ∧ (¬ bkC c x y → K (pc + len) lv r h z k n)
  | .ifCond c off => pI st fun x r => bkJ pc off fun t => (bkC c x 0 → K t lv r h z k n) ∧ (¬ bkC c x 0 → K (pc + len) lv r h z k n)
  | .tableswitch dflt lo hi offs => pI st fun x r => (hi - lo).toNat < offs.size ∧ bkJ pc (bkSw dflt lo hi offs x) fun t => K t lv r h z k n
  | .lookupswitch dflt ps => pI st fun x r => (ps.toList.zip (ps.toList.drop 1)).all (fun (a, next) => a.1 < next.1) = true ∧ bkJ pc (Op.lookupswitch.offset ps.toList dflt x.toInt) fun t => K t lv r h z k n
  | _ => False
def stpB (i : Instr) (pc len : Nat) (lv : List (Option Value)) (st : List Value) (h : bkHS) (z : Option Nat) (k n : Nat) (K : bkV) : Prop :=
  match i with
  | .getfield idx => pR st fun a r => match bkLk (mO M) idx with
    | some (.inl (ci, f)) => fOk (h a) ci f = true ∧ K (pc + len) lv (fGet (h a) f :: r) h z k n
    | _ => False
  | .putfield idx => pV st fun v r => pR r fun a r => match bkLk (mO M) idx with
    | some (.inl (ci, f)) => fOk (h a) ci f = true ∧ bkFi M ci f = true ∧ bkOkV (bkTy ci f) v ∧ K (pc + len) lv r (wr h a (fSet (h a) f v)) z k n
    | _ => False
  | .getstatic idx => match bkLk (mO M) idx with
    | some (.inr (.inl i)) => K (pc + len) lv (.ref (gS G i) :: st) h z k n
    | _ => False
  | .ldc idx => match bkLk (mO M) idx with
    | some (.inr (.inr (.inr (.inr (.inr (.inr (.int v))))))) => K (pc + len) lv (.int v :: st) h z k n
    | _ => False
  | .ldc_w idx => match bkLk (mO M) idx with
    | some (.inr (.inr (.inr (.inr (.inr (.inr (.int v))))))) => K (pc + len) lv (.int v :: st) h z k n
    | _ => False
  | .ldc2_w idx => match bkLk (mO M) idx with
    | some (.inr (.inr (.inr (.inr (.inr (.inr (.long v))))))) => K (pc + len) lv (.long v :: st) h z k n
    | _ => False
  | .iaload => pIR st fun i a r => bkIn (rI G h a) i ∧ K (pc + len) lv (.int (bkEl (rI G h a) i 0) :: r) h z k n
  | .laload => pIR st fun i a r => bkIn (rL (h a)) i ∧ K (pc + len) lv (.long (bkEl (rL (h a)) i 0) :: r) h z k n
  | .caload => pIR st fun i a r => bkIn (rC (h a)) i ∧ K (pc + len) lv (.int (bkEl (rC (h a)) i 0) :: r) h z k n
  | .daload => pIR st fun i a r => bkIn (rD (h a)) i ∧ K (pc + len) lv (.double (bkEl (rD (h a)) i 0) :: r) h z k n
  | .aaload => pIR st fun i a r => bkIn (rQ (h a)) i ∧ K (pc + len) lv (va_rf (bkEl (rQ (h a)) i none) :: r) h z k n
  | .iastore => pI st fun x r => pIR r fun i a r => bkIn (rIw (h a)) i ∧ K (pc + len) lv r (wr h a (.inr (.inl (bkUp (rIw (h a)) i x)))) z k n
  | .lastore => pL st fun x r => pIR r fun i a r => bkIn (rL (h a)) i ∧ K (pc + len) lv r (wr h a (.inr (.inr (.inl (bkUp (rL (h a)) i x))))) z k n
  | .castore => pI st fun x r => pIR r fun i a r => bkIn (rC (h a)) i ∧ K (pc + len) lv r (wr h a (.inr (.inr (.inr (.inl (bkUp (rC (h a)) i (vp_nar .char x))))))) z k n
  | .dastore => pD st fun x r => pIR r fun i a r => bkIn (rD (h a)) i ∧ K (pc + len) lv r (wr h a (.inr (.inr (.inr (.inr (.inl (bkUp (rD (h a)) i x))))))) z k n
  | .aastore => pR st fun v r => pIR r fun i a r => bkIn (rQ (h a)) i ∧ fOk (h v) 5 0 = true ∧ K (pc + len) lv r (wr h a (.inr (.inr (.inr (.inr (.inr (bkUp (rQ (h a)) i (some v)))))))) z k n
  | .arraylength => pR st fun a r => match gR G a with
    | some q => K (pc + len) lv (.int (Int32.ofNat q.1) :: r) h z k n
    | none => False
  | .new idx => match bkLk (mO M) idx with
    | some (.inr (.inr (.inl ci))) => match z with
      | some q => k + 1 ≤ mC M ∧ n + (bkDf ci).length ≤ mS M ∧ K (pc + len) lv (.ref q :: st) (wr h q (.inl (ci, bkDf ci))) (some (q + 1)) (k + 1) (n + (bkDf ci).length)
      | none => False
    | some (.inr (.inr (.inr (.inl (e, ic))))) => ¬ ic = 0 ∧ bkPat M pc ic = true ∧ mH M = [] ∧ cats st ≤ 8 ∧ k + 1 ≤ mC M ∧ n + 6 ≤ mS M ∧ Post (.inr e) h none
    | _ => False
  | .newarray ty => pI st fun x r => match z with
    | some q => ¬ x < 0 ∧ x.toNatClampNeg ≤ 65536 ∧ k + 1 ≤ mC M ∧ n + x.toNatClampNeg ≤ mS M ∧ (match ty with
      | .int => K (pc + len) lv (.ref q :: r) (wr h q (eI x.toNatClampNeg fun _ => 0)) (some (q + 1)) (k + 1) (n + x.toNatClampNeg)
      | .long => K (pc + len) lv (.ref q :: r) (wr h q (eL x.toNatClampNeg fun _ => 0)) (some (q + 1)) (k + 1) (n + x.toNatClampNeg)
      | .char => K (pc + len) lv (.ref q :: r) (wr h q (eC x.toNatClampNeg fun _ => 0)) (some (q + 1)) (k + 1) (n + x.toNatClampNeg)
      | .double => K (pc + len) lv (.ref q :: r) (wr h q (eD x.toNatClampNeg fun _ => 0)) (some (q + 1)) (k + 1) (n + x.toNatClampNeg)
      | _ => False)
    | none => False
  | .anewarray idx => pI st fun x r => match z with
    | some q => bkLk (mO M) idx = some (kC 5) ∧ ¬ x < 0 ∧ x.toNatClampNeg ≤ 65536 ∧ k + 1 ≤ mC M ∧ n + x.toNatClampNeg ≤ mS M ∧ K (pc + len) lv (.ref q :: r) (wr h q (eQ x.toNatClampNeg fun _ => none)) (some (q + 1)) (k + 1) (n + x.toNatClampNeg)
    | none => False
  | .return_ => st = [] ∧ mR M = none ∧ k ≤ mC M ∧ n ≤ mS M ∧ Post (.inl none) h z
  | .ireturn => pI st fun x r => r = [] ∧ bkRt (mR M) x ∧ k ≤ mC M ∧ n ≤ mS M ∧ Post (.inl (some (.int x))) h z
  | .lreturn => pL st fun x r => r = [] ∧ mR M = some .long ∧ k ≤ mC M ∧ n ≤ mS M ∧ Post (.inl (some (.long x))) h z
  | .dreturn => pD st fun x r => r = [] ∧ mR M = some .double ∧ k ≤ mC M ∧ n ≤ mS M ∧ Post (.inl (some (.double x))) h z
  | .invokestatic idx => match bkLk (mO M) idx with
    | some (.inr (.inr (.inr (.inr (.inl M'))))) => bkIsS M' = true ∧ bkCt M' = false ∧ bkCall CC M Post K pc lv st h z k n M'
    | some (.inr (.inr (.inr (.inr (.inr (.inl b)))))) => match b with
      | 0 => pII st fun x y r => cats r ≤ 8 ∧ k ≤ mC M ∧ n ≤ mS M ∧ K (pc + len) lv (.int (if x < y then y else x) :: r) h z k n
      | 1 => pII st fun x y r => cats r ≤ 8 ∧ k ≤ mC M ∧ n ≤ mS M ∧ K (pc + len) lv (.int (if y < x then y else x) :: r) h z k n
      | 2 => pII st fun dp m r => pR r fun a r => pIR r fun sp b r => cats r ≤ 8 ∧ ¬ sp < 0 ∧ ¬ dp < 0 ∧ ¬ m < 0 ∧
          ((∃ n0 n1 f g g', h b = some (eI n0 f) ∧ h a = some (eI n1 g) ∧ sp.toNatClampNeg + m.toNatClampNeg ≤ n0 ∧ dp.toNatClampNeg + m.toNatClampNeg ≤ n1 ∧ (∀ j, j < n1 → g' j = va_cpy f g sp.toNatClampNeg dp.toNatClampNeg m.toNatClampNeg j) ∧ K (pc + len) lv r (wr h a (eI n1 g')) z k n) ∨
           (∃ n0 n1 f g g', h b = some (eL n0 f) ∧ h a = some (eL n1 g) ∧ sp.toNatClampNeg + m.toNatClampNeg ≤ n0 ∧ dp.toNatClampNeg + m.toNatClampNeg ≤ n1 ∧ (∀ j, j < n1 → g' j = va_cpy f g sp.toNatClampNeg dp.toNatClampNeg m.toNatClampNeg j) ∧ K (pc + len) lv r (wr h a (eL n1 g')) z k n) ∨
           (h b = none ∧ ∃ n0 n1 f g g', gR G b = some (n0, f) ∧ h a = some (eI n1 g) ∧ sp.toNatClampNeg + m.toNatClampNeg ≤ n0 ∧ dp.toNatClampNeg + m.toNatClampNeg ≤ n1 ∧ (∀ j, j < n1 → g' j = va_cpy f g sp.toNatClampNeg dp.toNatClampNeg m.toNatClampNeg j) ∧ K (pc + len) lv r (wr h a (eI n1 g')) z k n))
      | _ => False
    | _ => False
  | .invokevirtual idx => match bkLk (mO M) idx with
    | some (.inr (.inr (.inr (.inr (.inl M'))))) => bkRcv st h M' ∧ bkIsS M' = false ∧ bkCt M' = false ∧ mH M' = [] ∧ bkCall CC M Post K pc lv st h z k n M'
    | _ => False
  | .invokespecial idx => match bkLk (mO M) idx with
    | some (.inr (.inr (.inr (.inr (.inl M'))))) => bkRcv st h M' ∧ bkIsS M' = false ∧ bkCt M' = true ∧ bkCall CC M Post K pc lv st h z k n M'
    | some (.inr (.inr (.inr (.inr (.inr (.inl b)))))) => b = 3 ∧ pR st fun _ r => cats r ≤ 8 ∧ K (pc + len) lv r h z k n
    | _ => False
  | i => stpA i pc len lv st h z k n K
def bkGo (K : bkV) : bkV := fun pc lv st h z k n => ∃ (i : Instr) (len : Nat), decode (mB M) pc = .ok (i, len) ∧ lenOK i len = true ∧ stpB G CC M Post i pc len lv st h z k n K
/-- the least predicate closed under the instructions -/
def bkWp : bkV := fun pc lv st h z k n => ∀ V : bkV, (∀ pc lv st h z k n, bkGo G CC M Post V pc lv st h z k n → V pc lv st h z k n) → V pc lv st h z k n
end
