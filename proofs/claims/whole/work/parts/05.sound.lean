/-! 05: the machine keeps to the small machine: instructions without calls -/
theorem ldI_spec {lv : List (Option Value)} {i : Nat} {f : Int32 → Prop} (h : ldI lv i f) : ∃ x, lv[i]? = some (some (.int x)) ∧ f x := by
  unfold ldI at h
  split at h
  · exact ⟨_, by assumption, h⟩
  · exact h.elim
theorem ldL_spec {lv : List (Option Value)} {i : Nat} {f : Int64 → Prop} (h : ldL lv i f) : ∃ x, lv[i]? = some (some (.long x)) ∧ f x := by
  unfold ldL at h
  split at h
  · exact ⟨_, by assumption, h⟩
  · exact h.elim
theorem ldD_spec {lv : List (Option Value)} {i : Nat} {f : UInt64 → Prop} (h : ldD lv i f) : ∃ x, lv[i]? = some (some (.double x)) ∧ f x := by
  unfold ldD at h
  split at h
  · exact ⟨_, by assumption, h⟩
  · exact h.elim
theorem ldR_spec {lv : List (Option Value)} {i : Nat} {f : Nat → Prop} (h : ldR lv i f) : ∃ x, lv[i]? = some (some (.ref x)) ∧ f x := by
  unfold ldR at h
  split at h
  · exact ⟨_, by assumption, h⟩
  · exact h.elim
theorem pI_spec {st : List Value} {f : Int32 → List Value → Prop} (h : pI st f) : ∃ x r, st = .int x :: r ∧ f x r := by
  unfold pI at h
  split at h
  · exact ⟨_, _, rfl, h⟩
  · exact h.elim
theorem pL_spec {st : List Value} {f : Int64 → List Value → Prop} (h : pL st f) : ∃ x r, st = .long x :: r ∧ f x r := by
  unfold pL at h
  split at h
  · exact ⟨_, _, rfl, h⟩
  · exact h.elim
theorem pD_spec {st : List Value} {f : UInt64 → List Value → Prop} (h : pD st f) : ∃ x r, st = .double x :: r ∧ f x r := by
  unfold pD at h
  split at h
  · exact ⟨_, _, rfl, h⟩
  · exact h.elim
theorem pR_spec {st : List Value} {f : Nat → List Value → Prop} (h : pR st f) : ∃ x r, st = .ref x :: r ∧ f x r := by
  unfold pR at h
  split at h
  · exact ⟨_, _, rfl, h⟩
  · exact h.elim
theorem pV_spec {st : List Value} {f : Value → List Value → Prop} (h : pV st f) : ∃ x r, st = x :: r ∧ f x r := by
  unfold pV at h
  split at h
  · exact ⟨_, _, rfl, h⟩
  · exact h.elim
theorem pII_spec {st : List Value} {f : Int32 → Int32 → List Value → Prop} (h : pII st f) : ∃ x y r, st = .int y :: .int x :: r ∧ f x y r := by
  obtain ⟨y, r1, rfl, h1⟩ := pI_spec h
  obtain ⟨x, r, rfl, h⟩ := pI_spec h1
  exact ⟨x, y, r, rfl, h⟩
theorem pLL_spec {st : List Value} {f : Int64 → Int64 → List Value → Prop} (h : pLL st f) : ∃ x y r, st = .long y :: .long x :: r ∧ f x y r := by
  obtain ⟨y, r1, rfl, h1⟩ := pL_spec h
  obtain ⟨x, r, rfl, h⟩ := pL_spec h1
  exact ⟨x, y, r, rfl, h⟩
theorem pDD_spec {st : List Value} {f : UInt64 → UInt64 → List Value → Prop} (h : pDD st f) : ∃ x y r, st = .double y :: .double x :: r ∧ f x y r := by
  obtain ⟨y, r1, rfl, h1⟩ := pD_spec h
  obtain ⟨x, r, rfl, h⟩ := pD_spec h1
  exact ⟨x, y, r, rfl, h⟩
theorem pIR_spec {st : List Value} {f : Int32 → Nat → List Value → Prop} (h : pIR st f) : ∃ i a r, st = .int i :: .ref a :: r ∧ f i a r := by
  obtain ⟨y, r1, rfl, h1⟩ := pI_spec h
  obtain ⟨x, r, rfl, h⟩ := pR_spec h1
  exact ⟨y, x, r, rfl, h⟩
theorem bkJ_spec {pc : Nat} {off : Int} {f : Nat → Prop} (h : bkJ pc off f) : ∃ t : Nat, (pc : Int) + off = (t : Int) ∧ f t := ⟨((pc : Int) + off).toNat, by have := h.1; omega, h.2⟩
section Snd
variable {p : Program} {e : Env} {R : Room} {s : State} {m : MethodId} {args : Array Value} {below : List Frame} {meth : Method} {c : Code} {Q : State → Prop} {G : bkG} {M : bkM}
/-- the machine's own predicate at a point of the small one -/
def bkV0 (p : Program) (e : Env) (R : Room) (s : State) (m : MethodId) (args : Array Value) (below : List Frame) (meth : Method) (c : Code) (Q : State → Prop) (G : bkG) (M : bkM) : bkV := fun pc lv st h z k n =>
  ∀ (H : Heap) (locs : List Loc) (ls : Array Slot), bkH G h z H → va_S (bkA G) s.heap H locs → bkLs ls (mL M) lv → W p (gl G) e R s m args below meth c H locs k n Q (F0 m pc ls st)
/-- what holds through a method's body -/
def bkB (p : Program) (R : Room) (s : State) (m : MethodId) (args : Array Value) (meth : Method) (c : Code) (G : bkG) (M : bkM) : Prop :=
  p.tables.exec = Jvm.exec ∧ c.code = mB M ∧ c.maxLocals = mL M ∧ s.vm.findClass (bkRN (mO M)) = some m.cls ∧ (∀ w ∈ ga, w.before args s = true) ∧ gB G ≤ s.heap.size ∧ bkFx G s ∧ mO M < 12 ∧
  (8 + mV M ≤ R.frames ∧ 400 + 40 * mV M ≤ R.locals ∧ mC M ≤ R.cells ∧ mS M ≤ R.slots) ∧ meth.locks = false ∧ (bkCt M = true → meth.name = "<init>")
set_option maxHeartbeats 4000000 in
theorem bk_sndA (hB : bkB p R s m args meth c G M) {i : Instr} {len pc : Nat} {lv : List (Option Value)} {st : List Value} {h : bkHS} {z : Option Nat} {k n : Nat} (hd : decode (mB M) pc = .ok (i, len)) (hl : lenOK i len = true)
    (hs : stpA i pc len lv st h z k n (bkV0 p e R s m args below meth c Q G M)) : bkV0 p e R s m args below meth c Q G M pc lv st h z k n := by
  intro H locs ls hH hS hL
  obtain ⟨hx, hb, hml, hown, hts, hBs, hF, ho, hR, hlk, hct⟩ := hB
  have hLn : lv.length = mL M := hL.1
  cases i
  case aload j =>
    obtain ⟨x, h1, hs⟩ := ldR_spec hs
    cases (eq_of_beq hl : len = 2)
    exact lv_aload hx hb hd (hL.2.2.2 _ _ h1) (hs H locs ls hH hS hL)
  case aload_n j =>
    obtain ⟨x, h1, hs⟩ := ldR_spec hs
    cases (eq_of_beq hl : len = 1)
    exact lv_aload_n hx hb hd rfl (hL.2.2.2 _ _ h1) (hs H locs ls hH hS hL)
  case iload j =>
    obtain ⟨x, h1, hs⟩ := ldI_spec hs
    cases (eq_of_beq hl : len = 2)
    exact lv_iload hx hb hd (hL.2.2.2 _ _ h1) (hs H locs ls hH hS hL)
  case iload_n j =>
    obtain ⟨x, h1, hs⟩ := ldI_spec hs
    cases (eq_of_beq hl : len = 1)
    exact lv_iload_n hx hb hd rfl (hL.2.2.2 _ _ h1) (hs H locs ls hH hS hL)
  case lload j =>
    obtain ⟨x, h1, hs⟩ := ldL_spec hs
    cases (eq_of_beq hl : len = 2)
    exact lv_lload hx hb hd (hL.2.2.2 _ _ h1) (hs H locs ls hH hS hL)
  case lload_n j =>
    obtain ⟨x, h1, hs⟩ := ldL_spec hs
    cases (eq_of_beq hl : len = 1)
    exact lv_lload_n hx hb hd rfl (hL.2.2.2 _ _ h1) (hs H locs ls hH hS hL)
  case dload j =>
    obtain ⟨x, h1, hs⟩ := ldD_spec hs
    cases (eq_of_beq hl : len = 2)
    exact lv_dload hx hb hd (hL.2.2.2 _ _ h1) (hs H locs ls hH hS hL)
  case dload_n j =>
    obtain ⟨x, h1, hs⟩ := ldD_spec hs
    cases (eq_of_beq hl : len = 1)
    exact lv_dload_n hx hb hd rfl (hL.2.2.2 _ _ h1) (hs H locs ls hH hS hL)
  case istore j =>
    obtain ⟨x, r, rfl, h1, hs⟩ := pI_spec hs
    cases (eq_of_beq hl : len = 2)
    exact lv_istore hx hb hd hL.has (by omega) rfl (fun ls' hl' => hs H locs ls' hH hS (hL.sto h1 hl'))
  case istore_n j =>
    obtain ⟨x, r, rfl, h1, hs⟩ := pI_spec hs
    cases (eq_of_beq hl : len = 1)
    exact lv_istore_n hx hb hd rfl hL.has (by omega) rfl (fun ls' hl' => hs H locs ls' hH hS (hL.sto h1 hl'))
  case astore j =>
    obtain ⟨x, r, rfl, h1, hs⟩ := pR_spec hs
    cases (eq_of_beq hl : len = 2)
    exact lv_astore hx hb hd hL.has (by omega) rfl (fun ls' hl' => hs H locs ls' hH hS (hL.sto h1 hl'))
  case astore_n j =>
    obtain ⟨x, r, rfl, h1, hs⟩ := pR_spec hs
    cases (eq_of_beq hl : len = 1)
    exact lv_astore_n hx hb hd rfl hL.has (by omega) rfl (fun ls' hl' => hs H locs ls' hH hS (hL.sto h1 hl'))
  case lstore j =>
    obtain ⟨x, r, rfl, h1, hs⟩ := pL_spec hs
    cases (eq_of_beq hl : len = 2)
    exact lv_lstore hx hb hd hL.has (by omega) rfl (fun ls' hl' => hs H locs ls' hH hS (hL.sto2 h1 hl'))
  case lstore_n j =>
    obtain ⟨x, r, rfl, h1, hs⟩ := pL_spec hs
    cases (eq_of_beq hl : len = 1)
    exact lv_lstore_n hx hb hd rfl hL.has (by omega) rfl (fun ls' hl' => hs H locs ls' hH hS (hL.sto2 h1 hl'))
  case dstore j =>
    obtain ⟨x, r, rfl, h1, hs⟩ := pD_spec hs
    cases (eq_of_beq hl : len = 2)
    exact lv_dstore hx hb hd hL.has (by omega) rfl (fun ls' hl' => hs H locs ls' hH hS (hL.sto2 h1 hl'))
  case dstore_n j =>
    obtain ⟨x, r, rfl, h1, hs⟩ := pD_spec hs
    cases (eq_of_beq hl : len = 1)
    exact lv_dstore_n hx hb hd rfl hL.has (by omega) rfl (fun ls' hl' => hs H locs ls' hH hS (hL.sto2 h1 hl'))
  case iinc j d =>
    obtain ⟨x, h1, hs⟩ := ldI_spec hs
    cases (eq_of_beq hl : len = 3)
    have hj : j < lv.length := (List.getElem?_eq_some_iff.mp h1).1
    obtain ⟨kk, hk⟩ := List.mem_iff_getElem?.mp (bkAll_mem.mpr h1)
    exact lv_iinc hx hb hd hL.has hk rfl (by omega) rfl (fun ls' hl' => hs H locs ls' hH hS (hL.sto hj hl'))
  case iconst d => cases (eq_of_beq hl : len = 1); exact lv_iconst hx hb hd rfl (hs H locs ls hH hS hL)
  case bipush d => cases (eq_of_beq hl : len = 2); exact lv_bipush hx hb hd rfl (hs H locs ls hH hS hL)
  case sipush d => cases (eq_of_beq hl : len = 3); exact lv_sipush hx hb hd rfl (hs H locs ls hH hS hL)
  case lconst d => cases (eq_of_beq hl : len = 1); exact lv_lconst hx hb hd rfl (hs H locs ls hH hS hL)
  case iadd => obtain ⟨x, y, r, rfl, hs⟩ := pII_spec hs; cases (eq_of_beq hl : len = 1); exact lv_iadd hx hb hd (hs H locs ls hH hS hL)
  case isub => obtain ⟨x, y, r, rfl, hs⟩ := pII_spec hs; cases (eq_of_beq hl : len = 1); exact lv_isub hx hb hd (hs H locs ls hH hS hL)
  case imul => obtain ⟨x, y, r, rfl, hs⟩ := pII_spec hs; cases (eq_of_beq hl : len = 1); exact lv_imul hx hb hd (hs H locs ls hH hS hL)
  case idiv => obtain ⟨x, y, r, rfl, h1, hs⟩ := pII_spec hs; cases (eq_of_beq hl : len = 1); exact lv_idiv hx hb hd h1 (hs H locs ls hH hS hL)
  case irem => obtain ⟨x, y, r, rfl, h1, hs⟩ := pII_spec hs; cases (eq_of_beq hl : len = 1); exact lv_irem hx hb hd h1 (hs H locs ls hH hS hL)
  case ineg => obtain ⟨x, r, rfl, hs⟩ := pI_spec hs; cases (eq_of_beq hl : len = 1); exact lv_ineg hx hb hd (hs H locs ls hH hS hL)
  case ishl => obtain ⟨x, y, r, rfl, hs⟩ := pII_spec hs; cases (eq_of_beq hl : len = 1); exact lv_ishl hx hb hd (hs H locs ls hH hS hL)
  case ishr => obtain ⟨x, y, r, rfl, hs⟩ := pII_spec hs; cases (eq_of_beq hl : len = 1); exact lv_ishr hx hb hd (hs H locs ls hH hS hL)
  case iushr => obtain ⟨x, y, r, rfl, hs⟩ := pII_spec hs; cases (eq_of_beq hl : len = 1); exact lv_iushr hx hb hd rfl (hs H locs ls hH hS hL)
  case iand => obtain ⟨x, y, r, rfl, hs⟩ := pII_spec hs; cases (eq_of_beq hl : len = 1); exact lv_iand hx hb hd (hs H locs ls hH hS hL)
  case ior => obtain ⟨x, y, r, rfl, hs⟩ := pII_spec hs; cases (eq_of_beq hl : len = 1); exact lv_ior hx hb hd (hs H locs ls hH hS hL)
  case ixor => obtain ⟨x, y, r, rfl, hs⟩ := pII_spec hs; cases (eq_of_beq hl : len = 1); exact lv_ixor hx hb hd (hs H locs ls hH hS hL)
  case ladd => obtain ⟨x, y, r, rfl, hs⟩ := pLL_spec hs; cases (eq_of_beq hl : len = 1); exact lv_ladd hx hb hd (hs H locs ls hH hS hL)
  case lsub => obtain ⟨x, y, r, rfl, hs⟩ := pLL_spec hs; cases (eq_of_beq hl : len = 1); exact lv_lsub hx hb hd (hs H locs ls hH hS hL)
  case lmul => obtain ⟨x, y, r, rfl, hs⟩ := pLL_spec hs; cases (eq_of_beq hl : len = 1); exact lv_lmul hx hb hd (hs H locs ls hH hS hL)
  case lcmp => obtain ⟨x, y, r, rfl, hs⟩ := pLL_spec hs; cases (eq_of_beq hl : len = 1); exact W.lcmp hx hb hd (hs H locs ls hH hS hL)
  case i2l => obtain ⟨x, r, rfl, hs⟩ := pI_spec hs; cases (eq_of_beq hl : len = 1); exact lv_i2l hx hb hd rfl (hs H locs ls hH hS hL)
  case l2i => obtain ⟨x, r, rfl, hs⟩ := pL_spec hs; cases (eq_of_beq hl : len = 1); exact lv_l2i hx hb hd rfl (hs H locs ls hH hS hL)
  case i2c => obtain ⟨x, r, rfl, hs⟩ := pI_spec hs; cases (eq_of_beq hl : len = 1); exact lv_i2c hx hb hd rfl (hs H locs ls hH hS hL)
  case i2d => obtain ⟨x, r, rfl, hs⟩ := pI_spec hs; cases (eq_of_beq hl : len = 1); exact lv_i2d hx hb hd (hs H locs ls hH hS hL)
  case l2d => obtain ⟨x, r, rfl, hs⟩ := pL_spec hs; cases (eq_of_beq hl : len = 1); exact lv_l2d hx hb hd (hs H locs ls hH hS hL)
  case dmul => obtain ⟨x, y, r, rfl, h1, hs⟩ := pDD_spec hs; cases (eq_of_beq hl : len = 1); exact lv_dmul hx hb hd h1 (hs H locs ls hH hS hL)
  case ddiv => obtain ⟨x, y, r, rfl, h1, hs⟩ := pDD_spec hs; cases (eq_of_beq hl : len = 1); exact lv_ddiv hx hb hd h1 (hs H locs ls hH hS hL)
  case dsub => obtain ⟨x, y, r, rfl, h1, hs⟩ := pDD_spec hs; cases (eq_of_beq hl : len = 1); exact lv_dsub hx hb hd h1 (hs H locs ls hH hS hL)
  case dcmp op => obtain ⟨x, y, r, rfl, hs⟩ := pDD_spec hs; cases (eq_of_beq hl : len = 1); exact lv_dcmp hx hb hd (hs H locs ls hH hS hL)
  case dconst d =>
    cases (eq_of_beq hl : len = 1)
    by_cases h0 : d = 0
    · subst h0
      have hs : bkV0 p e R s m args below meth c Q G M (pc + 1) lv (.double FP.dconst0 :: st) h z k n := by simpa [stpA] using hs
      exact lv_dconst0 hx hb hd (hs H locs ls hH hS hL)
    · by_cases h1 : d = 1
      · subst h1
        have hs : bkV0 p e R s m args below meth c Q G M (pc + 1) lv (.double FP.dconst1 :: st) h z k n := by simpa [stpA] using hs
        exact lv_dconst1 hx hb hd (hs H locs ls hH hS hL)
      · omega
  case dup => obtain ⟨v, r, rfl, h1, hs⟩ := pV_spec hs; cases (eq_of_beq hl : len = 1); exact lv_dup hx hb hd h1 (hs H locs ls hH hS hL)
  case dup2 =>
    obtain ⟨v, r, rfl, hs⟩ := pV_spec hs
    obtain ⟨w, r, rfl, h1, h2, hs⟩ := pV_spec hs
    cases (eq_of_beq hl : len = 1)
    exact lv_dup2_11 hx hb hd h1 h2 (hs H locs ls hH hS hL)
  case goto off =>
    cases (eq_of_beq hl : len = 3)
    have hs1 : bkJ pc off (fun t => bkV0 p e R s m args below meth c Q G M t lv st h z k n) := hs
    obtain ⟨t, ht, hs2⟩ := bkJ_spec hs1
    exact lv_goto hx hb hd ht (hs2 H locs ls hH hS hL)
  case if_icmp cnd off =>
    obtain ⟨x, y, r, rfl, hs⟩ := pII_spec hs
    have hs : bkJ pc off (fun t => (bkC cnd x y → bkV0 p e R s m args below meth c Q G M t lv r h z k n) ∧ (¬ bkC cnd x y → bkV0 p e R s m args below meth c Q G M (pc + len) lv r h z k n)) := hs
    obtain ⟨t, ht, h1, h2⟩ := bkJ_spec hs
    cases (eq_of_beq hl : len = 3)
    cases cnd
    · exact lv_icmp_eq hx hb hd ht (fun q => h1 q H locs ls hH hS hL) (fun q => h2 q H locs ls hH hS hL)
    · exact lv_icmp_ne hx hb hd ht (fun q => h1 q H locs ls hH hS hL) (fun q => h2 (fun z => z q) H locs ls hH hS hL)
    · exact lv_icmp_lt hx hb hd ht (fun q => h1 q H locs ls hH hS hL) (fun q => h2 q H locs ls hH hS hL)
    · exact lv_icmp_ge hx hb hd ht (fun q => h1 q H locs ls hH hS hL) (fun q => h2 q H locs ls hH hS hL)
    · exact lv_icmp_gt hx hb hd ht (fun q => h1 q H locs ls hH hS hL) (fun q => h2 q H locs ls hH hS hL)
    · exact lv_icmp_le hx hb hd ht (fun q => h1 q H locs ls hH hS hL) (fun q => h2 q H locs ls hH hS hL)
  case ifCond cnd off =>
    obtain ⟨x, r, rfl, hs⟩ := pI_spec hs
    have hs : bkJ pc off (fun t => (bkC cnd x 0 → bkV0 p e R s m args below meth c Q G M t lv r h z k n) ∧ (¬ bkC cnd x 0 → bkV0 p e R s m args below meth c Q G M (pc + len) lv r h z k n)) := hs
    obtain ⟨t, ht, h1, h2⟩ := bkJ_spec hs
    cases (eq_of_beq hl : len = 3)
    cases cnd
    · exact lv_if_eq hx hb hd ht (fun q => h1 q H locs ls hH hS hL) (fun q => h2 q H locs ls hH hS hL)
    · exact lv_if_ne hx hb hd ht (fun q => h1 q H locs ls hH hS hL) (fun q => h2 (fun z => z q) H locs ls hH hS hL)
    · exact lv_if_lt hx hb hd ht (fun q => h1 q H locs ls hH hS hL) (fun q => h2 q H locs ls hH hS hL)
    · exact lv_if_ge hx hb hd ht (fun q => h1 q H locs ls hH hS hL) (fun q => h2 q H locs ls hH hS hL)
    · exact lv_if_gt hx hb hd ht (fun q => h1 q H locs ls hH hS hL) (fun q => h2 q H locs ls hH hS hL)
    · exact lv_if_le hx hb hd ht (fun q => h1 q H locs ls hH hS hL) (fun q => h2 q H locs ls hH hS hL)
  case tableswitch dflt lo hi offs =>
    obtain ⟨x, r, rfl, h9, hs⟩ := pI_spec hs
    have hs : bkJ pc (bkSw dflt lo hi offs x) (fun t => bkV0 p e R s m args below meth c Q G M t lv r h z k n) := hs
    obtain ⟨t, ht, hs⟩ := bkJ_spec hs
    unfold bkSw at ht
    by_cases hc : x.toInt < lo ∨ hi < x.toInt
    · rw [if_pos hc] at ht
      exact lv_tableOut hx hb hd hc ht (hs H locs ls hH hS hL)
    · rw [if_neg hc] at ht
      cases ho : offs[(x.toInt - lo).toNat]? with
      | none =>
        have h8 := Array.getElem?_eq_none_iff.mp ho
        omega
      | some off =>
        rw [ho] at ht
        exact lv_tableIn hx hb hd (fun q => hc (Or.inl q)) (fun q => hc (Or.inr q)) ho ht (hs H locs ls hH hS hL)
  case lookupswitch dflt ps =>
    obtain ⟨x, r, rfl, h1, hs⟩ := pI_spec hs
    have hs : bkJ pc (Op.lookupswitch.offset ps.toList dflt x.toInt) (fun t => bkV0 p e R s m args below meth c Q G M t lv r h z k n) := hs
    obtain ⟨t, ht, hs⟩ := bkJ_spec hs
    exact lv_lookup hx hb hd h1 rfl ht (hs H locs ls hH hS hL)
  all_goals exact False.elim hs
end Snd
