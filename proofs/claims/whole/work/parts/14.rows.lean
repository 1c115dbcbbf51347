/-! 14: a row for each kind of instruction: equations of wp -/
def bkIs (o : Option bkE) (ci : Nat) : Bool := match o with
  | some (.inl (c, _)) => c == ci
  | _ => false
theorem bk_and {P Q : Prop} (h : P) : (P ∧ Q) = Q := propext ⟨fun q => q.2, fun q => ⟨h, q⟩⟩
section Rw
variable {G : bkG} {M M' : bkM} {Post : bkPo} {pc pc' : Nat} {lv lv' : List (Option Value)} {st r : List Value} {h : bkHS} {z : Option Nat} {k n idx ci f : Nat}
theorem e_iload {x : Int32} {i : Instr} {len j : Nat} (hd : decode (mB M) pc = .ok (i, len)) (hi : (i = .iload j ∧ len = 2) ∨ (len = 1 ∧ ∃ q : Fin 4, i = .iload_n q ∧ q.val = j)) (hp : pc + len = pc') (hl : lv[j]? = some (some (.int x))) : wp G M Post pc lv st h z k n = wp G M Post pc' lv (.int x :: st) h z k n := by
  subst hp
  rcases hi with ⟨rfl, rfl⟩ | ⟨rfl, q, rfl, rfl⟩
  · rw [wp_at hd rfl]; show ldI lv j _ = _; unfold ldI; rw [hl]
  · rw [wp_at hd rfl]; show ldI lv q.val _ = _; unfold ldI; rw [hl]
theorem e_aload {x : Nat} {i : Instr} {len j : Nat} (hd : decode (mB M) pc = .ok (i, len)) (hi : (i = .aload j ∧ len = 2) ∨ (len = 1 ∧ ∃ q : Fin 4, i = .aload_n q ∧ q.val = j)) (hp : pc + len = pc') (hl : lv[j]? = some (some (.ref x))) : wp G M Post pc lv st h z k n = wp G M Post pc' lv (.ref x :: st) h z k n := by
  subst hp
  rcases hi with ⟨rfl, rfl⟩ | ⟨rfl, q, rfl, rfl⟩
  · rw [wp_at hd rfl]; show ldR lv j _ = _; unfold ldR; rw [hl]
  · rw [wp_at hd rfl]; show ldR lv q.val _ = _; unfold ldR; rw [hl]
theorem e_lload {x : Int64} {i : Instr} {len j : Nat} (hd : decode (mB M) pc = .ok (i, len)) (hi : (i = .lload j ∧ len = 2) ∨ (len = 1 ∧ ∃ q : Fin 4, i = .lload_n q ∧ q.val = j)) (hp : pc + len = pc') (hl : lv[j]? = some (some (.long x))) : wp G M Post pc lv st h z k n = wp G M Post pc' lv (.long x :: st) h z k n := by
  subst hp
  rcases hi with ⟨rfl, rfl⟩ | ⟨rfl, q, rfl, rfl⟩
  · rw [wp_at hd rfl]; show ldL lv j _ = _; unfold ldL; rw [hl]
  · rw [wp_at hd rfl]; show ldL lv q.val _ = _; unfold ldL; rw [hl]
theorem e_dload {x : UInt64} {i : Instr} {len j : Nat} (hd : decode (mB M) pc = .ok (i, len)) (hi : (i = .dload j ∧ len = 2) ∨ (len = 1 ∧ ∃ q : Fin 4, i = .dload_n q ∧ q.val = j)) (hp : pc + len = pc') (hl : lv[j]? = some (some (.double x))) : wp G M Post pc lv st h z k n = wp G M Post pc' lv (.double x :: st) h z k n := by
  subst hp
  rcases hi with ⟨rfl, rfl⟩ | ⟨rfl, q, rfl, rfl⟩
  · rw [wp_at hd rfl]; show ldD lv j _ = _; unfold ldD; rw [hl]
  · rw [wp_at hd rfl]; show ldD lv q.val _ = _; unfold ldD; rw [hl]
theorem e_istore {x : Int32} {i : Instr} {len j : Nat} (hd : decode (mB M) pc = .ok (i, len)) (hi : (i = .istore j ∧ len = 2) ∨ (len = 1 ∧ ∃ q : Fin 4, i = .istore_n q ∧ q.val = j)) (hp : pc + len = pc') (hj : j < lv.length) (hl : sto lv j (.int x) = lv') : wp G M Post pc lv (.int x :: r) h z k n = wp G M Post pc' lv' r h z k n := by
  subst hp; subst hl
  rcases hi with ⟨rfl, rfl⟩ | ⟨rfl, q, rfl, rfl⟩
  · rw [wp_at hd rfl]; exact bk_and hj
  · rw [wp_at hd rfl]; exact bk_and hj
theorem e_astore {x : Nat} {i : Instr} {len j : Nat} (hd : decode (mB M) pc = .ok (i, len)) (hi : (i = .astore j ∧ len = 2) ∨ (len = 1 ∧ ∃ q : Fin 4, i = .astore_n q ∧ q.val = j)) (hp : pc + len = pc') (hj : j < lv.length) (hl : sto lv j (.ref x) = lv') : wp G M Post pc lv (.ref x :: r) h z k n = wp G M Post pc' lv' r h z k n := by
  subst hp; subst hl
  rcases hi with ⟨rfl, rfl⟩ | ⟨rfl, q, rfl, rfl⟩
  · rw [wp_at hd rfl]; exact bk_and hj
  · rw [wp_at hd rfl]; exact bk_and hj
theorem e_lstore {x : Int64} {i : Instr} {len j : Nat} (hd : decode (mB M) pc = .ok (i, len)) (hi : (i = .lstore j ∧ len = 2) ∨ (len = 1 ∧ ∃ q : Fin 4, i = .lstore_n q ∧ q.val = j)) (hp : pc + len = pc') (hj : j + 1 < lv.length) (hl : sto2 lv j (.long x) = lv') : wp G M Post pc lv (.long x :: r) h z k n = wp G M Post pc' lv' r h z k n := by
  subst hp; subst hl
  rcases hi with ⟨rfl, rfl⟩ | ⟨rfl, q, rfl, rfl⟩
  · rw [wp_at hd rfl]; exact bk_and hj
  · rw [wp_at hd rfl]; exact bk_and hj
theorem e_dstore {x : UInt64} {i : Instr} {len j : Nat} (hd : decode (mB M) pc = .ok (i, len)) (hi : (i = .dstore j ∧ len = 2) ∨ (len = 1 ∧ ∃ q : Fin 4, i = .dstore_n q ∧ q.val = j)) (hp : pc + len = pc') (hj : j + 1 < lv.length) (hl : sto2 lv j (.double x) = lv') : wp G M Post pc lv (.double x :: r) h z k n = wp G M Post pc' lv' r h z k n := by
  subst hp; subst hl
  rcases hi with ⟨rfl, rfl⟩ | ⟨rfl, q, rfl, rfl⟩
  · rw [wp_at hd rfl]; exact bk_and hj
  · rw [wp_at hd rfl]; exact bk_and hj
theorem e_iinc {x v : Int32} {j : Nat} {c : Int} (hd : decode (mB M) pc = .ok (.iinc j c, 3)) (hp : pc + 3 = pc') (hv : Int32.ofInt c = v) (hl : lv[j]? = some (some (.int x))) (hs : sto lv j (.int (x + v)) = lv') : wp G M Post pc lv st h z k n = wp G M Post pc' lv' st h z k n := by
  subst hp; subst hs; subst hv
  rw [wp_at hd rfl]; show ldI lv j _ = _; unfold ldI; rw [hl]
theorem e_iconst {c : Int} {v : Int32} (hd : decode (mB M) pc = .ok (.iconst c, 1)) (hp : pc + 1 = pc') (hv : Int32.ofInt c = v) : wp G M Post pc lv st h z k n = wp G M Post pc' lv (.int v :: st) h z k n := by
  subst hp; subst hv; exact wp_at hd rfl ..
theorem e_bipush {c : Int} {v : Int32} (hd : decode (mB M) pc = .ok (.bipush c, 2)) (hp : pc + 2 = pc') (hv : (Int8.ofInt c).toInt32 = v) : wp G M Post pc lv st h z k n = wp G M Post pc' lv (.int v :: st) h z k n := by
  subst hp; subst hv; exact wp_at hd rfl ..
theorem e_sipush {c : Int} {v : Int32} (hd : decode (mB M) pc = .ok (.sipush c, 3)) (hp : pc + 3 = pc') (hv : (Int16.ofInt c).toInt32 = v) : wp G M Post pc lv st h z k n = wp G M Post pc' lv (.int v :: st) h z k n := by
  subst hp; subst hv; exact wp_at hd rfl ..
theorem e_lconst {c : Fin 2} {v : Int64} (hd : decode (mB M) pc = .ok (.lconst c, 1)) (hp : pc + 1 = pc') (hv : Int64.ofNat c.val = v) : wp G M Post pc lv st h z k n = wp G M Post pc' lv (.long v :: st) h z k n := by
  subst hp; subst hv; exact wp_at hd rfl ..
theorem e_dconst0 (hd : decode (mB M) pc = .ok (.dconst 0, 1)) (hp : pc + 1 = pc') : wp G M Post pc lv st h z k n = wp G M Post pc' lv (.double FP.dconst0 :: st) h z k n := by
  subst hp; rw [wp_at hd rfl]; simp [stpB, stpA]
theorem e_dconst1 (hd : decode (mB M) pc = .ok (.dconst 1, 1)) (hp : pc + 1 = pc') : wp G M Post pc lv st h z k n = wp G M Post pc' lv (.double FP.dconst1 :: st) h z k n := by
  subst hp; rw [wp_at hd rfl]; simp [stpB, stpA]
theorem e_iadd {x y : Int32} (hd : decode (mB M) pc = .ok (.iadd, 1)) (hp : pc + 1 = pc') : wp G M Post pc lv (.int y :: .int x :: r) h z k n = wp G M Post pc' lv (.int (x + y) :: r) h z k n := by subst hp; exact wp_at hd rfl ..
theorem e_isub {x y : Int32} (hd : decode (mB M) pc = .ok (.isub, 1)) (hp : pc + 1 = pc') : wp G M Post pc lv (.int y :: .int x :: r) h z k n = wp G M Post pc' lv (.int (x - y) :: r) h z k n := by subst hp; exact wp_at hd rfl ..
theorem e_imul {x y : Int32} (hd : decode (mB M) pc = .ok (.imul, 1)) (hp : pc + 1 = pc') : wp G M Post pc lv (.int y :: .int x :: r) h z k n = wp G M Post pc' lv (.int (x * y) :: r) h z k n := by subst hp; exact wp_at hd rfl ..
theorem e_idiv {x y : Int32} (hd : decode (mB M) pc = .ok (.idiv, 1)) (hp : pc + 1 = pc') : wp G M Post pc lv (.int y :: .int x :: r) h z k n = (¬ y = 0 ∧ wp G M Post pc' lv (.int (x / y) :: r) h z k n) := by subst hp; exact wp_at hd rfl ..
theorem e_irem {x y : Int32} (hd : decode (mB M) pc = .ok (.irem, 1)) (hp : pc + 1 = pc') : wp G M Post pc lv (.int y :: .int x :: r) h z k n = (¬ y = 0 ∧ wp G M Post pc' lv (.int (x - x / y * y) :: r) h z k n) := by subst hp; exact wp_at hd rfl ..
theorem e_ineg {x : Int32} (hd : decode (mB M) pc = .ok (.ineg, 1)) (hp : pc + 1 = pc') : wp G M Post pc lv (.int x :: r) h z k n = wp G M Post pc' lv (.int (-x) :: r) h z k n := by subst hp; exact wp_at hd rfl ..
theorem e_ishl {x y : Int32} (hd : decode (mB M) pc = .ok (.ishl, 1)) (hp : pc + 1 = pc') : wp G M Post pc lv (.int y :: .int x :: r) h z k n = wp G M Post pc' lv (.int (x <<< (y &&& 31)) :: r) h z k n := by subst hp; exact wp_at hd rfl ..
theorem e_ishr {x y : Int32} (hd : decode (mB M) pc = .ok (.ishr, 1)) (hp : pc + 1 = pc') : wp G M Post pc lv (.int y :: .int x :: r) h z k n = wp G M Post pc' lv (.int (x >>> (y &&& 31)) :: r) h z k n := by subst hp; exact wp_at hd rfl ..
theorem e_iushr {x y : Int32} (hd : decode (mB M) pc = .ok (.iushr, 1)) (hp : pc + 1 = pc') : wp G M Post pc lv (.int y :: .int x :: r) h z k n = wp G M Post pc' lv (.int (x.toUInt32 >>> (y.toUInt32 &&& Int32.toUInt32 31)).toInt32 :: r) h z k n := by subst hp; exact wp_at hd rfl ..
theorem e_iand {x y : Int32} (hd : decode (mB M) pc = .ok (.iand, 1)) (hp : pc + 1 = pc') : wp G M Post pc lv (.int y :: .int x :: r) h z k n = wp G M Post pc' lv (.int (x &&& y) :: r) h z k n := by subst hp; exact wp_at hd rfl ..
theorem e_ior {x y : Int32} (hd : decode (mB M) pc = .ok (.ior, 1)) (hp : pc + 1 = pc') : wp G M Post pc lv (.int y :: .int x :: r) h z k n = wp G M Post pc' lv (.int (x ||| y) :: r) h z k n := by subst hp; exact wp_at hd rfl ..
theorem e_ixor {x y : Int32} (hd : decode (mB M) pc = .ok (.ixor, 1)) (hp : pc + 1 = pc') : wp G M Post pc lv (.int y :: .int x :: r) h z k n = wp G M Post pc' lv (.int (x ^^^ y) :: r) h z k n := by subst hp; exact wp_at hd rfl ..
theorem e_ladd {x y : Int64} (hd : decode (mB M) pc = .ok (.ladd, 1)) (hp : pc + 1 = pc') : wp G M Post pc lv (.long y :: .long x :: r) h z k n = wp G M Post pc' lv (.long (x + y) :: r) h z k n := by subst hp; exact wp_at hd rfl ..
theorem e_lsub {x y : Int64} (hd : decode (mB M) pc = .ok (.lsub, 1)) (hp : pc + 1 = pc') : wp G M Post pc lv (.long y :: .long x :: r) h z k n = wp G M Post pc' lv (.long (x - y) :: r) h z k n := by subst hp; exact wp_at hd rfl ..
theorem e_lmul {x y : Int64} (hd : decode (mB M) pc = .ok (.lmul, 1)) (hp : pc + 1 = pc') : wp G M Post pc lv (.long y :: .long x :: r) h z k n = wp G M Post pc' lv (.long (x * y) :: r) h z k n := by subst hp; exact wp_at hd rfl ..
theorem e_lcmp {x y : Int64} (hd : decode (mB M) pc = .ok (.lcmp, 1)) (hp : pc + 1 = pc') : wp G M Post pc lv (.long y :: .long x :: r) h z k n = wp G M Post pc' lv (.int (lg_cmp x y) :: r) h z k n := by subst hp; exact wp_at hd rfl ..
theorem e_i2l {x : Int32} (hd : decode (mB M) pc = .ok (.i2l, 1)) (hp : pc + 1 = pc') : wp G M Post pc lv (.int x :: r) h z k n = wp G M Post pc' lv (.long x.toInt64 :: r) h z k n := by subst hp; exact wp_at hd rfl ..
theorem e_l2i {x : Int64} (hd : decode (mB M) pc = .ok (.l2i, 1)) (hp : pc + 1 = pc') : wp G M Post pc lv (.long x :: r) h z k n = wp G M Post pc' lv (.int x.toInt32 :: r) h z k n := by subst hp; exact wp_at hd rfl ..
theorem e_i2c {x : Int32} (hd : decode (mB M) pc = .ok (.i2c, 1)) (hp : pc + 1 = pc') : wp G M Post pc lv (.int x :: r) h z k n = wp G M Post pc' lv (.int (x.toUInt32 % 65536).toInt32 :: r) h z k n := by subst hp; exact wp_at hd rfl ..
theorem e_i2d {x : Int32} (hd : decode (mB M) pc = .ok (.i2d, 1)) (hp : pc + 1 = pc') : wp G M Post pc lv (.int x :: r) h z k n = wp G M Post pc' lv (.double (FP.i2d x) :: r) h z k n := by subst hp; exact wp_at hd rfl ..
theorem e_l2d {x : Int64} (hd : decode (mB M) pc = .ok (.l2d, 1)) (hp : pc + 1 = pc') : wp G M Post pc lv (.long x :: r) h z k n = wp G M Post pc' lv (.double (FP.l2d x) :: r) h z k n := by subst hp; exact wp_at hd rfl ..
theorem e_dmul {x y : UInt64} (hd : decode (mB M) pc = .ok (.dmul, 1)) (hp : pc + 1 = pc') : wp G M Post pc lv (.double y :: .double x :: r) h z k n = (vf_n64 (FP.dmul x y) ∧ wp G M Post pc' lv (.double (FP.dmul x y) :: r) h z k n) := by subst hp; exact wp_at hd rfl ..
theorem e_ddiv {x y : UInt64} (hd : decode (mB M) pc = .ok (.ddiv, 1)) (hp : pc + 1 = pc') : wp G M Post pc lv (.double y :: .double x :: r) h z k n = (vf_n64 (FP.ddiv x y) ∧ wp G M Post pc' lv (.double (FP.ddiv x y) :: r) h z k n) := by subst hp; exact wp_at hd rfl ..
theorem e_dsub {x y : UInt64} (hd : decode (mB M) pc = .ok (.dsub, 1)) (hp : pc + 1 = pc') : wp G M Post pc lv (.double y :: .double x :: r) h z k n = (vf_n64 (FP.dsub x y) ∧ wp G M Post pc' lv (.double (FP.dsub x y) :: r) h z k n) := by subst hp; exact wp_at hd rfl ..
theorem e_dcmp {x y : UInt64} {op : CmpOp} (hd : decode (mB M) pc = .ok (.dcmp op, 1)) (hp : pc + 1 = pc') : wp G M Post pc lv (.double y :: .double x :: r) h z k n = wp G M Post pc' lv (.int (Op.cmpValue (FP.dcmp x y) op) :: r) h z k n := by subst hp; exact wp_at hd rfl ..
theorem e_dup {v : Value} (hd : decode (mB M) pc = .ok (.dup, 1)) (hp : pc + 1 = pc') (hv : v.category = 1) : wp G M Post pc lv (v :: r) h z k n = wp G M Post pc' lv (v :: v :: r) h z k n := by
  subst hp; rw [wp_at hd rfl]; exact bk_and hv
theorem e_dup2 {v w : Value} (hd : decode (mB M) pc = .ok (.dup2, 1)) (hp : pc + 1 = pc') (hv : v.category = 1) (hw : w.category = 1) : wp G M Post pc lv (v :: w :: r) h z k n = wp G M Post pc' lv (v :: w :: v :: w :: r) h z k n := by
  subst hp; rw [wp_at hd rfl]; exact (bk_and hv).trans (bk_and hw)
theorem bkJ_eq {off : Int} {t : Nat} {g : Nat → Prop} (ht : (pc : Int) + off = (t : Int)) : bkJ pc off g = g t := by
  unfold bkJ
  rw [ht]
  exact bk_and (Int.natCast_nonneg t)
theorem e_goto {off : Int} {t : Nat} (hd : decode (mB M) pc = .ok (.goto off, 3)) (ht : (pc : Int) + off = (t : Int)) : wp G M Post pc lv st h z k n = wp G M Post t lv st h z k n := by
  rw [wp_at hd rfl]; exact bkJ_eq (g := fun t => wp G M Post t lv st h z k n) ht
theorem e_icmp {c : ClassFile.Cond} {x y : Int32} {off : Int} {t : Nat} (hd : decode (mB M) pc = .ok (.if_icmp c off, 3)) (hp : pc + 3 = pc') (ht : (pc : Int) + off = (t : Int)) {P : Prop} (hc : bkC c x y = P) :
    wp G M Post pc lv (.int y :: .int x :: r) h z k n = ((P → wp G M Post t lv r h z k n) ∧ (¬ P → wp G M Post pc' lv r h z k n)) := by
  subst hp; subst hc
  rw [wp_at hd rfl]
  exact bkJ_eq (g := fun t => (bkC c x y → wp G M Post t lv r h z k n) ∧ (¬ bkC c x y → wp G M Post (pc + 3) lv r h z k n)) ht
theorem e_if {c : ClassFile.Cond} {x : Int32} {off : Int} {t : Nat} (hd : decode (mB M) pc = .ok (.ifCond c off, 3)) (hp : pc + 3 = pc') (ht : (pc : Int) + off = (t : Int)) {P : Prop} (hc : bkC c x 0 = P) :
    wp G M Post pc lv (.int x :: r) h z k n = ((P → wp G M Post t lv r h z k n) ∧ (¬ P → wp G M Post pc' lv r h z k n)) := by
  subst hp; subst hc
  rw [wp_at hd rfl]
  exact bkJ_eq (g := fun t => (bkC c x 0 → wp G M Post t lv r h z k n) ∧ (¬ bkC c x 0 → wp G M Post (pc + 3) lv r h z k n)) ht
theorem e_tswitch {dflt lo hi : Int} {offs : Array Int} {len : Nat} {x : Int32} {t : Nat} (hd : decode (mB M) pc = .ok (.tableswitch dflt lo hi offs, len)) (hs : (hi - lo).toNat < offs.size) (ht : (pc : Int) + bkSw dflt lo hi offs x = (t : Int)) :
    wp G M Post pc lv (.int x :: r) h z k n = wp G M Post t lv r h z k n := by
  rw [wp_at hd rfl]
  exact (bk_and hs).trans (bkJ_eq (g := fun t => wp G M Post t lv r h z k n) ht)
theorem e_lswitch {dflt : Int} {ps : Array (Int × Int)} {len : Nat} {x : Int32} {t : Nat} (hd : decode (mB M) pc = .ok (.lookupswitch dflt ps, len)) (hs : (ps.toList.zip (ps.toList.drop 1)).all (fun (a, next) => a.1 < next.1) = true) (ht : (pc : Int) + Op.lookupswitch.offset ps.toList dflt x.toInt = (t : Int)) :
    wp G M Post pc lv (.int x :: r) h z k n = wp G M Post t lv r h z k n := by
  rw [wp_at hd rfl]
  exact (bk_and hs).trans (bkJ_eq (g := fun t => wp G M Post t lv r h z k n) ht)
theorem e_getf {a : Nat} (hd : decode (mB M) pc = .ok (.getfield idx, 3)) (hp : pc + 3 = pc') (hl : bkLk (mO M) idx = some (kF ci f)) : wp G M Post pc lv (.ref a :: r) h z k n = (fOk (h a) ci f = true ∧ wp G M Post pc' lv (fGet (h a) f :: r) h z k n) := by
  subst hp
  rw [wp_at hd rfl]
  show (match bkLk (mO M) idx with
    | some (.inl (ci, f)) => fOk (h a) ci f = true ∧ wp G M Post (pc + 3) lv (fGet (h a) f :: r) h z k n
    | _ => False) = _
  rw [hl]
theorem e_putf {a : Nat} {v : Value} (hd : decode (mB M) pc = .ok (.putfield idx, 3)) (hp : pc + 3 = pc') (hl : bkLk (mO M) idx = some (kF ci f)) (hf : bkFi M ci f = true) (ho : bkOkV (bkTy ci f) v) : wp G M Post pc lv (v :: .ref a :: r) h z k n = (fOk (h a) ci f = true ∧ wp G M Post pc' lv r (wr h a (fSet (h a) f v)) z k n) := by
  subst hp
  rw [wp_at hd rfl]
  show (match bkLk (mO M) idx with
    | some (.inl (ci, f)) => fOk (h a) ci f = true ∧ bkFi M ci f = true ∧ bkOkV (bkTy ci f) v ∧ wp G M Post (pc + 3) lv r (wr h a (fSet (h a) f v)) z k n
    | _ => False) = _
  rw [hl]
  exact propext ⟨fun q => ⟨q.1, q.2.2.2⟩, fun q => ⟨q.1, hf, ho, q.2⟩⟩
/-- a boolean field -/
theorem e_putz {a : Nat} {x : Int32} (hd : decode (mB M) pc = .ok (.putfield idx, 3)) (hp : pc + 3 = pc') (hl : bkLk (mO M) idx = some (kF ci f)) (hf : bkFi M ci f = true) (hb : bkTy ci f = .boolean) : wp G M Post pc lv (.int x :: .ref a :: r) h z k n = (bkOkV .boolean (.int x) ∧ fOk (h a) ci f = true ∧ wp G M Post pc' lv r (wr h a (fSet (h a) f (.int x))) z k n) := by
  subst hp
  rw [wp_at hd rfl]
  show (match bkLk (mO M) idx with
    | some (.inl (ci, f)) => fOk (h a) ci f = true ∧ bkFi M ci f = true ∧ bkOkV (bkTy ci f) (.int x) ∧ wp G M Post (pc + 3) lv r (wr h a (fSet (h a) f (.int x))) z k n
    | _ => False) = _
  rw [hl]
  dsimp only
  rw [hb]
  exact propext ⟨fun q => ⟨q.2.2.1, q.1, q.2.2.2⟩, fun q => ⟨q.2.1, hf, q.1, q.2.2⟩⟩
theorem e_gets {i : Nat} (hd : decode (mB M) pc = .ok (.getstatic idx, 3)) (hp : pc + 3 = pc') (hl : bkLk (mO M) idx = some (kS i)) : wp G M Post pc lv st h z k n = wp G M Post pc' lv (.ref (gS G i) :: st) h z k n := by
  subst hp
  rw [wp_at hd rfl]
  show (match bkLk (mO M) idx with
    | some (.inr (.inl i)) => wp G M Post (pc + 3) lv (.ref (gS G i) :: st) h z k n
    | _ => False) = _
  rw [hl]
theorem e_ldc {v : Int32} (hd : decode (mB M) pc = .ok (.ldc idx, 2)) (hp : pc + 2 = pc') (hl : bkLk (mO M) idx = some (kV (.int v))) : wp G M Post pc lv st h z k n = wp G M Post pc' lv (.int v :: st) h z k n := by
  subst hp
  rw [wp_at hd rfl]
  show (match bkLk (mO M) idx with
    | some (.inr (.inr (.inr (.inr (.inr (.inr (.int v))))))) => wp G M Post (pc + 2) lv (.int v :: st) h z k n
    | _ => False) = _
  rw [hl]
theorem e_ldcw {v : Int32} (hd : decode (mB M) pc = .ok (.ldc_w idx, 3)) (hp : pc + 3 = pc') (hl : bkLk (mO M) idx = some (kV (.int v))) : wp G M Post pc lv st h z k n = wp G M Post pc' lv (.int v :: st) h z k n := by
  subst hp
  rw [wp_at hd rfl]
  show (match bkLk (mO M) idx with
    | some (.inr (.inr (.inr (.inr (.inr (.inr (.int v))))))) => wp G M Post (pc + 3) lv (.int v :: st) h z k n
    | _ => False) = _
  rw [hl]
theorem e_ldc2 {v : Int64} (hd : decode (mB M) pc = .ok (.ldc2_w idx, 3)) (hp : pc + 3 = pc') (hl : bkLk (mO M) idx = some (kV (.long v))) : wp G M Post pc lv st h z k n = wp G M Post pc' lv (.long v :: st) h z k n := by
  subst hp
  rw [wp_at hd rfl]
  show (match bkLk (mO M) idx with
    | some (.inr (.inr (.inr (.inr (.inr (.inr (.long v))))))) => wp G M Post (pc + 3) lv (.long v :: st) h z k n
    | _ => False) = _
  rw [hl]
theorem e_iald {i : Int32} {a : Nat} (hd : decode (mB M) pc = .ok (.iaload, 1)) (hp : pc + 1 = pc') : wp G M Post pc lv (.int i :: .ref a :: r) h z k n = (bkIn (rI G h a) i ∧ wp G M Post pc' lv (.int (bkEl (rI G h a) i 0) :: r) h z k n) := by subst hp; exact wp_at hd rfl ..
theorem e_lald {i : Int32} {a : Nat} (hd : decode (mB M) pc = .ok (.laload, 1)) (hp : pc + 1 = pc') : wp G M Post pc lv (.int i :: .ref a :: r) h z k n = (bkIn (rL (h a)) i ∧ wp G M Post pc' lv (.long (bkEl (rL (h a)) i 0) :: r) h z k n) := by subst hp; exact wp_at hd rfl ..
theorem e_cald {i : Int32} {a : Nat} (hd : decode (mB M) pc = .ok (.caload, 1)) (hp : pc + 1 = pc') : wp G M Post pc lv (.int i :: .ref a :: r) h z k n = (bkIn (rC (h a)) i ∧ wp G M Post pc' lv (.int (bkEl (rC (h a)) i 0) :: r) h z k n) := by subst hp; exact wp_at hd rfl ..
theorem e_dald {i : Int32} {a : Nat} (hd : decode (mB M) pc = .ok (.daload, 1)) (hp : pc + 1 = pc') : wp G M Post pc lv (.int i :: .ref a :: r) h z k n = (bkIn (rD (h a)) i ∧ wp G M Post pc' lv (.double (bkEl (rD (h a)) i 0) :: r) h z k n) := by subst hp; exact wp_at hd rfl ..
theorem e_aald {i : Int32} {a : Nat} (hd : decode (mB M) pc = .ok (.aaload, 1)) (hp : pc + 1 = pc') : wp G M Post pc lv (.int i :: .ref a :: r) h z k n = (bkIn (rQ (h a)) i ∧ wp G M Post pc' lv (va_rf (bkEl (rQ (h a)) i none) :: r) h z k n) := by subst hp; exact wp_at hd rfl ..
theorem e_iast {x i : Int32} {a : Nat} (hd : decode (mB M) pc = .ok (.iastore, 1)) (hp : pc + 1 = pc') : wp G M Post pc lv (.int x :: .int i :: .ref a :: r) h z k n = (bkIn (rIw (h a)) i ∧ wp G M Post pc' lv r (wr h a (.inr (.inl (bkUp (rIw (h a)) i x)))) z k n) := by subst hp; exact wp_at hd rfl ..
theorem e_last {x : Int64} {i : Int32} {a : Nat} (hd : decode (mB M) pc = .ok (.lastore, 1)) (hp : pc + 1 = pc') : wp G M Post pc lv (.long x :: .int i :: .ref a :: r) h z k n = (bkIn (rL (h a)) i ∧ wp G M Post pc' lv r (wr h a (.inr (.inr (.inl (bkUp (rL (h a)) i x))))) z k n) := by subst hp; exact wp_at hd rfl ..
theorem e_cast {x i : Int32} {a : Nat} (hd : decode (mB M) pc = .ok (.castore, 1)) (hp : pc + 1 = pc') : wp G M Post pc lv (.int x :: .int i :: .ref a :: r) h z k n = (bkIn (rC (h a)) i ∧ wp G M Post pc' lv r (wr h a (.inr (.inr (.inr (.inl (bkUp (rC (h a)) i (vp_nar .char x))))))) z k n) := by subst hp; exact wp_at hd rfl ..
theorem e_dast {x : UInt64} {i : Int32} {a : Nat} (hd : decode (mB M) pc = .ok (.dastore, 1)) (hp : pc + 1 = pc') : wp G M Post pc lv (.double x :: .int i :: .ref a :: r) h z k n = (bkIn (rD (h a)) i ∧ wp G M Post pc' lv r (wr h a (.inr (.inr (.inr (.inr (.inl (bkUp (rD (h a)) i x))))))) z k n) := by subst hp; exact wp_at hd rfl ..
theorem e_aast {v : Nat} {i : Int32} {a : Nat} (hd : decode (mB M) pc = .ok (.aastore, 1)) (hp : pc + 1 = pc') : wp G M Post pc lv (.ref v :: .int i :: .ref a :: r) h z k n = (bkIn (rQ (h a)) i ∧ fOk (h v) 5 0 = true ∧ wp G M Post pc' lv r (wr h a (.inr (.inr (.inr (.inr (.inr (bkUp (rQ (h a)) i (some v)))))))) z k n) := by subst hp; exact wp_at hd rfl ..
theorem e_alen {a : Nat} {q : Nat × (Nat → Int32)} (hd : decode (mB M) pc = .ok (.arraylength, 1)) (hp : pc + 1 = pc') (hq : gR G a = some q) : wp G M Post pc lv (.ref a :: r) h z k n = wp G M Post pc' lv (.int (Int32.ofNat q.1) :: r) h z k n := by
  subst hp
  rw [wp_at hd rfl]
  show (match gR G a with
    | some q => wp G M Post (pc + 1) lv (.int (Int32.ofNat q.1) :: r) h z k n
    | none => False) = _
  rw [hq]
theorem e_new {q : Nat} {c s : Nat} (hd : decode (mB M) pc = .ok (.new idx, 3)) (hp : pc + 3 = pc') (hl : bkLk (mO M) idx = some (kC ci)) {df : List Value} (hdf : bkDf ci = df) : wp G M Post pc lv st h (some q) k n = (k + 1 ≤ mC M ∧ n + df.length ≤ mS M ∧ wp G M Post pc' lv (.ref q :: st) (wr h q (.inl (ci, df))) (some (q + 1)) (k + 1) (n + df.length)) := by
  subst hp; subst hdf
  rw [wp_at hd rfl]
  unfold stpB
  dsimp only
  rw [hl]
theorem e_throw {x ic : Nat} (hd : decode (mB M) pc = .ok (.new idx, 3)) (hl : bkLk (mO M) idx = some (kX x ic)) (hic : ¬ ic = 0) (hpt : bkPat M pc ic = true) (hh : mH M = []) : wp G M Post pc lv st h z k n = (cats st ≤ 8 ∧ k + 1 ≤ mC M ∧ n + 6 ≤ mS M ∧ Post (.inr x) h none) := by
  rw [wp_at hd rfl]
  unfold stpB
  dsimp only
  rw [hl]
  exact (bk_and hic).trans ((bk_and hpt).trans (bk_and hh))
theorem e_newI {x : Int32} {q N : Nat} (hd : decode (mB M) pc = .ok (.newarray .int, 2)) (hp : pc + 2 = pc') (h0 : ¬ x < 0) (hN : x.toNatClampNeg = N) (h1 : N ≤ 65536) : wp G M Post pc lv (.int x :: r) h (some q) k n = (k + 1 ≤ mC M ∧ n + N ≤ mS M ∧ wp G M Post pc' lv (.ref q :: r) (wr h q (eI N fun _ => 0)) (some (q + 1)) (k + 1) (n + N)) := by
  subst hp; subst hN
  rw [wp_at hd rfl]
  exact (bk_and h0).trans (bk_and h1)
theorem e_newL {x : Int32} {q N : Nat} (hd : decode (mB M) pc = .ok (.newarray .long, 2)) (hp : pc + 2 = pc') (h0 : ¬ x < 0) (hN : x.toNatClampNeg = N) (h1 : N ≤ 65536) : wp G M Post pc lv (.int x :: r) h (some q) k n = (k + 1 ≤ mC M ∧ n + N ≤ mS M ∧ wp G M Post pc' lv (.ref q :: r) (wr h q (eL N fun _ => 0)) (some (q + 1)) (k + 1) (n + N)) := by
  subst hp; subst hN
  rw [wp_at hd rfl]
  exact (bk_and h0).trans (bk_and h1)
theorem e_newC {x : Int32} {q N : Nat} (hd : decode (mB M) pc = .ok (.newarray .char, 2)) (hp : pc + 2 = pc') (h0 : ¬ x < 0) (hN : x.toNatClampNeg = N) (h1 : N ≤ 65536) : wp G M Post pc lv (.int x :: r) h (some q) k n = (k + 1 ≤ mC M ∧ n + N ≤ mS M ∧ wp G M Post pc' lv (.ref q :: r) (wr h q (eC N fun _ => 0)) (some (q + 1)) (k + 1) (n + N)) := by
  subst hp; subst hN
  rw [wp_at hd rfl]
  exact (bk_and h0).trans (bk_and h1)
theorem e_newD {x : Int32} {q N : Nat} (hd : decode (mB M) pc = .ok (.newarray .double, 2)) (hp : pc + 2 = pc') (h0 : ¬ x < 0) (hN : x.toNatClampNeg = N) (h1 : N ≤ 65536) : wp G M Post pc lv (.int x :: r) h (some q) k n = (k + 1 ≤ mC M ∧ n + N ≤ mS M ∧ wp G M Post pc' lv (.ref q :: r) (wr h q (eD N fun _ => 0)) (some (q + 1)) (k + 1) (n + N)) := by
  subst hp; subst hN
  rw [wp_at hd rfl]
  exact (bk_and h0).trans (bk_and h1)
theorem e_newQ {x : Int32} {q N : Nat} (hd : decode (mB M) pc = .ok (.anewarray idx, 3)) (hp : pc + 3 = pc') (hl : bkLk (mO M) idx = some (kC 5)) (h0 : ¬ x < 0) (hN : x.toNatClampNeg = N) (h1 : N ≤ 65536) : wp G M Post pc lv (.int x :: r) h (some q) k n = (k + 1 ≤ mC M ∧ n + N ≤ mS M ∧ wp G M Post pc' lv (.ref q :: r) (wr h q (eQ N fun _ => none)) (some (q + 1)) (k + 1) (n + N)) := by
  subst hp; subst hN
  rw [wp_at hd rfl]
  exact (bk_and hl).trans ((bk_and h0).trans (bk_and h1))
theorem e_ret (hd : decode (mB M) pc = .ok (.return_, 1)) (hr : mR M = none) : wp G M Post pc lv [] h z k n = (k ≤ mC M ∧ n ≤ mS M ∧ Post (.inl none) h z) := by
  rw [wp_at hd rfl]
  exact (bk_and rfl).trans (bk_and hr)
theorem e_iret {x : Int32} (hd : decode (mB M) pc = .ok (.ireturn, 1)) (hr : mR M = some .int) : wp G M Post pc lv [.int x] h z k n = (k ≤ mC M ∧ n ≤ mS M ∧ Post (.inl (some (.int x))) h z) := by
  rw [wp_at hd rfl]
  exact (bk_and rfl).trans (bk_and (by rw [hr]; exact trivial))
theorem e_zret {x : Int32} (hd : decode (mB M) pc = .ok (.ireturn, 1)) (hr : mR M = some .boolean) : wp G M Post pc lv [.int x] h z k n = ((x = 0 ∨ x = 1) ∧ k ≤ mC M ∧ n ≤ mS M ∧ Post (.inl (some (.int x))) h z) := by
  rw [wp_at hd rfl]
  refine (bk_and rfl).trans ?_
  rw [hr]
  rfl
theorem e_lret {x : Int64} (hd : decode (mB M) pc = .ok (.lreturn, 1)) (hr : mR M = some .long) : wp G M Post pc lv [.long x] h z k n = (k ≤ mC M ∧ n ≤ mS M ∧ Post (.inl (some (.long x))) h z) := by
  rw [wp_at hd rfl]
  exact (bk_and rfl).trans (bk_and hr)
theorem e_dret {x : UInt64} (hd : decode (mB M) pc = .ok (.dreturn, 1)) (hr : mR M = some .double) : wp G M Post pc lv [.double x] h z k n = (k ≤ mC M ∧ n ≤ mS M ∧ Post (.inl (some (.double x))) h z) := by
  rw [wp_at hd rfl]
  exact (bk_and rfl).trans (bk_and hr)
/-- the numbers of a call that are fixed -/
def bkFit (M M' : bkM) (st : List Value) (av r : List Value) : Prop := mV M' < mV M ∧ mL M' ≤ 20 ∧ mN M' ≤ st.length ∧ (st.take (mN M')).reverse = av ∧ st.drop (mN M') = r
theorem bkCall_eq {CC : bkM → List Value → bkHS → Option Nat → bkPo → Prop} {K : bkV} {av : List Value} {z' : Option Nat} (hf : bkFit M M' st av r) (hz : (if bkCt M' = true then z else none) = z') :
    bkCall CC M Post K pc lv st h z k n M' = (cats r ≤ 8 ∧ k + mC M' ≤ mC M ∧ n + mS M' ≤ mS M ∧ CC M' av h z' (bkK M Post K pc lv r (k + mC M') (n + mS M'))) := by
  obtain ⟨h1, h2, h3, h4, h5⟩ := hf
  subst hz
  unfold bkCall
  rw [h4, h5]
  exact (bk_and h1).trans ((bk_and h2).trans (bk_and h3))
theorem e_calls {av : List Value} (hd : decode (mB M) pc = .ok (.invokestatic idx, 3)) (hl : bkLk (mO M) idx = some (kM M')) (hs : bkIsS M' = true) (hc : bkCt M' = false) (hf : bkFit M M' st av r) {c s : Nat} (e1 : mC M' = c) (e2 : mS M' = s) :
    wp G M Post pc lv st h z k n = (cats r ≤ 8 ∧ k + c ≤ mC M ∧ n + s ≤ mS M ∧ CM G M' av h none (bkK M Post (wp G M Post) pc lv r (k + c) (n + s))) := by
  subst e1; subst e2
  rw [wp_at hd rfl]
  unfold stpB
  dsimp only
  rw [hl]
  exact (bk_and hs).trans ((bk_and hc).trans (bkCall_eq hf (by rw [hc]; rfl)))
theorem bkRcv_eq {a : Nat} (ha : st[mN M' - 1]? = some (.ref a)) (hc : ∃ (T : u_T) (N : Nat), bkCl[ci]? = some ((mY M').cls, T, N)) (hd : ∀ c C T N, bkCl[c]? = some (C, T, N) → C = (mY M').cls → c = ci) : bkRcv st h M' = (bkIs (h a) ci = true) := by
  unfold bkRcv bkIs
  rw [ha]
  dsimp only
  split
  · rename_i c fs hc9
    rw [hc9]
    refine propext ⟨fun q => ?_, fun q => ?_⟩
    · split at q
      · rename_i C T N h8
        have := hd _ _ _ _ h8 q
        subst this
        exact beq_self_eq_true _
      · exact q.elim
    · have : c = ci := eq_of_beq q
      subst this
      obtain ⟨T, N, h8⟩ := hc
      rw [h8]
  · rename_i hn
    refine propext ⟨fun q => q.elim, fun q => ?_⟩
    split at q
    · rename_i c fs h9
      exact (hn c fs h9).elim
    · cases q
theorem e_callv {av : List Value} {a : Nat} (hd : decode (mB M) pc = .ok (.invokevirtual idx, 3)) (hl : bkLk (mO M) idx = some (kM M')) (hs : bkIsS M' = false) (hc : bkCt M' = false) (hh : mH M' = []) (hf : bkFit M M' st av r) (ha : st[mN M' - 1]? = some (.ref a)) (hcl : ∃ (T : u_T) (N : Nat), bkCl[ci]? = some ((mY M').cls, T, N)) (hcu : ∀ c C T N, bkCl[c]? = some (C, T, N) → C = (mY M').cls → c = ci) {c s : Nat} (e1 : mC M' = c) (e2 : mS M' = s) :
    wp G M Post pc lv st h z k n = (bkIs (h a) ci = true ∧ cats r ≤ 8 ∧ k + c ≤ mC M ∧ n + s ≤ mS M ∧ CM G M' av h none (bkK M Post (wp G M Post) pc lv r (k + c) (n + s))) := by
  subst e1; subst e2
  rw [wp_at hd rfl]
  unfold stpB
  dsimp only
  rw [hl]
  show (bkRcv st h M' ∧ bkIsS M' = false ∧ bkCt M' = false ∧ mH M' = [] ∧ bkCall (CM G) M Post (wp G M Post) pc lv st h z k n M') = _
  rw [bkRcv_eq ha hcl hcu, bk_and hs, bk_and hc, bk_and hh, bkCall_eq (z' := none) hf (by rw [hc]; rfl)]
theorem e_calli {av : List Value} {a : Nat} (hd : decode (mB M) pc = .ok (.invokespecial idx, 3)) (hl : bkLk (mO M) idx = some (kM M')) (hs : bkIsS M' = false) (hc : bkCt M' = true) (hf : bkFit M M' st av r) (ha : st[mN M' - 1]? = some (.ref a)) (hcl : ∃ (T : u_T) (N : Nat), bkCl[ci]? = some ((mY M').cls, T, N)) (hcu : ∀ c C T N, bkCl[c]? = some (C, T, N) → C = (mY M').cls → c = ci) {c s : Nat} (e1 : mC M' = c) (e2 : mS M' = s) :
    wp G M Post pc lv st h z k n = (bkIs (h a) ci = true ∧ cats r ≤ 8 ∧ k + c ≤ mC M ∧ n + s ≤ mS M ∧ CM G M' av h z (bkK M Post (wp G M Post) pc lv r (k + c) (n + s))) := by
  subst e1; subst e2
  rw [wp_at hd rfl]
  unfold stpB
  dsimp only
  rw [hl]
  show (bkRcv st h M' ∧ bkIsS M' = false ∧ bkCt M' = true ∧ bkCall (CM G) M Post (wp G M Post) pc lv st h z k n M') = _
  rw [bkRcv_eq ha hcl hcu, bk_and hs, bk_and hc, bkCall_eq (z' := z) hf (by rw [hc]; rfl)]
theorem e_obj {a : Nat} (hd : decode (mB M) pc = .ok (.invokespecial idx, 3)) (hp : pc + 3 = pc') (hl : bkLk (mO M) idx = some (kB 3)) : wp G M Post pc lv (.ref a :: r) h z k n = (cats r ≤ 8 ∧ wp G M Post pc' lv r h z k n) := by
  subst hp
  rw [wp_at hd rfl]
  unfold stpB
  dsimp only
  rw [hl]
  exact bk_and rfl
theorem e_max {x y : Int32} (hd : decode (mB M) pc = .ok (.invokestatic idx, 3)) (hp : pc + 3 = pc') (hl : bkLk (mO M) idx = some (kB 0)) : wp G M Post pc lv (.int y :: .int x :: r) h z k n = (cats r ≤ 8 ∧ k ≤ mC M ∧ n ≤ mS M ∧ wp G M Post pc' lv (.int (if x < y then y else x) :: r) h z k n) := by
  subst hp
  rw [wp_at hd rfl]
  unfold stpB
  dsimp only
  rw [hl]
  rfl
theorem e_min {x y : Int32} (hd : decode (mB M) pc = .ok (.invokestatic idx, 3)) (hp : pc + 3 = pc') (hl : bkLk (mO M) idx = some (kB 1)) : wp G M Post pc lv (.int y :: .int x :: r) h z k n = (cats r ≤ 8 ∧ k ≤ mC M ∧ n ≤ mS M ∧ wp G M Post pc' lv (.int (if y < x then y else x) :: r) h z k n) := by
  subst hp
  rw [wp_at hd rfl]
  unfold stpB
  dsimp only
  rw [hl]
  rfl
theorem e_copyI {sp dp cnt : Int32} {a b n0 n1 : Nat} {f g : Nat → Int32} (hd : decode (mB M) pc = .ok (.invokestatic idx, 3)) (hp : pc + 3 = pc') (hl : bkLk (mO M) idx = some (kB 2)) (hb : h b = some (eI n0 f)) (ha : h a = some (eI n1 g)) (hc : cats r ≤ 8) (h1 : ¬ sp < 0) (h2 : ¬ dp < 0) (h3 : ¬ cnt < 0) (h4 : sp.toNatClampNeg + cnt.toNatClampNeg ≤ n0) (h5 : dp.toNatClampNeg + cnt.toNatClampNeg ≤ n1)
    {g' : Nat → Int32} (hg : ∀ j, j < n1 → g' j = va_cpy f g sp.toNatClampNeg dp.toNatClampNeg cnt.toNatClampNeg j) (hw : wp G M Post pc' lv r (wr h a (eI n1 g')) z k n) : wp G M Post pc lv (.int cnt :: .int dp :: .ref a :: .int sp :: .ref b :: r) h z k n := by
  subst hp
  rw [wp_at hd rfl]
  unfold stpB
  dsimp only
  rw [hl]
  exact ⟨hc, h1, h2, h3, Or.inl ⟨n0, n1, f, g, g', hb, ha, h4, h5, hg, hw⟩⟩
theorem e_copyL {sp dp cnt : Int32} {a b n0 n1 : Nat} {f g : Nat → Int64} (hd : decode (mB M) pc = .ok (.invokestatic idx, 3)) (hp : pc + 3 = pc') (hl : bkLk (mO M) idx = some (kB 2)) (hb : h b = some (eL n0 f)) (ha : h a = some (eL n1 g)) (hc : cats r ≤ 8) (h1 : ¬ sp < 0) (h2 : ¬ dp < 0) (h3 : ¬ cnt < 0) (h4 : sp.toNatClampNeg + cnt.toNatClampNeg ≤ n0) (h5 : dp.toNatClampNeg + cnt.toNatClampNeg ≤ n1)
    {g' : Nat → Int64} (hg : ∀ j, j < n1 → g' j = va_cpy f g sp.toNatClampNeg dp.toNatClampNeg cnt.toNatClampNeg j) (hw : wp G M Post pc' lv r (wr h a (eL n1 g')) z k n) : wp G M Post pc lv (.int cnt :: .int dp :: .ref a :: .int sp :: .ref b :: r) h z k n := by
  subst hp
  rw [wp_at hd rfl]
  unfold stpB
  dsimp only
  rw [hl]
  exact ⟨hc, h1, h2, h3, Or.inr (Or.inl ⟨n0, n1, f, g, g', hb, ha, h4, h5, hg, hw⟩)⟩
theorem e_copyR {sp dp cnt : Int32} {a b n0 n1 : Nat} {f g : Nat → Int32} (hd : decode (mB M) pc = .ok (.invokestatic idx, 3)) (hp : pc + 3 = pc') (hl : bkLk (mO M) idx = some (kB 2)) (hn : h b = none) (hb : gR G b = some (n0, f)) (ha : h a = some (eI n1 g)) (hc : cats r ≤ 8) (h1 : ¬ sp < 0) (h2 : ¬ dp < 0) (h3 : ¬ cnt < 0) (h4 : sp.toNatClampNeg + cnt.toNatClampNeg ≤ n0) (h5 : dp.toNatClampNeg + cnt.toNatClampNeg ≤ n1)
    {g' : Nat → Int32} (hg : ∀ j, j < n1 → g' j = va_cpy f g sp.toNatClampNeg dp.toNatClampNeg cnt.toNatClampNeg j) (hw : wp G M Post pc' lv r (wr h a (eI n1 g')) z k n) : wp G M Post pc lv (.int cnt :: .int dp :: .ref a :: .int sp :: .ref b :: r) h z k n := by
  subst hp
  rw [wp_at hd rfl]
  unfold stpB
  dsimp only
  rw [hl]
  exact ⟨hc, h1, h2, h3, Or.inr (Or.inr ⟨hn, n0, n1, f, g, g', hb, ha, h4, h5, hg, hw⟩)⟩
end Rw
section Rw2
variable {G : bkG} {M M' : bkM} {Post : bkPo} {pc pc' : Nat} {lv lv' : List (Option Value)} {st r : List Value} {h : bkHS} {z : Option Nat} {k n : Nat}
theorem e_icmpN {x y : Int32} {off : Int} {t : Nat} (hd : decode (mB M) pc = .ok (.if_icmp .ne off, 3)) (hp : pc + 3 = pc') (ht : (pc : Int) + off = (t : Int)) :
    wp G M Post pc lv (.int y :: .int x :: r) h z k n = ((x = y → wp G M Post pc' lv r h z k n) ∧ (¬ x = y → wp G M Post t lv r h z k n)) := by
  rw [e_icmp hd hp ht rfl]
  exact propext ⟨fun q => ⟨fun e => q.2 (fun z => z e), fun e => q.1 e⟩, fun q => ⟨fun e => q.2 e, fun e => q.1 (Classical.byContradiction e)⟩⟩
theorem e_ifN {x : Int32} {off : Int} {t : Nat} (hd : decode (mB M) pc = .ok (.ifCond .ne off, 3)) (hp : pc + 3 = pc') (ht : (pc : Int) + off = (t : Int)) :
    wp G M Post pc lv (.int x :: r) h z k n = ((x = 0 → wp G M Post pc' lv r h z k n) ∧ (¬ x = 0 → wp G M Post t lv r h z k n)) := by
  rw [e_if hd hp ht rfl]
  exact propext ⟨fun q => ⟨fun e => q.2 (fun z => z e), fun e => q.1 e⟩, fun q => ⟨fun e => q.2 e, fun e => q.1 (Classical.byContradiction e)⟩⟩
end Rw2
