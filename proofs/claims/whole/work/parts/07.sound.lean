/-! 07: the instructions of the heap, of ends and of throws -/
section Snd
variable {p : Program} {e : Env} {R : Room} {s : State} {m : MethodId} {args : Array Value} {below : List Frame} {meth : Method} {c : Code} {Q : State → Prop} {G : bkG} {M : bkM}
def bkRetOK (i : Instr) (v : Option Value) (ret : Option FieldType) : Prop := match i, v with
  | .ireturn, some (.int x) => bkRt ret x
  | .lreturn, some (.long _) => ret = some .long
  | .dreturn, some (.double _) => ret = some .double
  | .return_, none => ret = none
  | _, _ => False
/-- what the ends of a body owe -/
def bkEnds (p : Program) (e : Env) (R : Room) (s : State) (m : MethodId) (args : Array Value) (below : List Frame) (meth : Method) (c : Code) (Q : State → Prop) (G : bkG) (M : bkM) (Post : bkPo) : Prop :=
  (∀ (i : Instr) (v : Option Value) (pc : Nat) (h : bkHS) (z : Option Nat) (k n : Nat) (H : Heap) (locs : List Loc) (ls : Array Slot), decode (mB M) pc = .ok (i, 1) → bkRetOK i v (mR M) → k ≤ mC M → n ≤ mS M → Post (.inl v) h z → bkH G h z H → va_S (bkA G) s.heap H locs → W p (gl G) e R s m args below meth c H locs k n Q (F0 m pc ls v.toList)) ∧
  (∀ (x pc : Nat) (rest : List Value) (h : bkHS) (k n : Nat) (H : Heap) (locs : List Loc) (ls : Array Slot) (q : Nat) (ce : Cell), mH M = [] → x < 6 → k ≤ mC M → n ≤ mS M → Post (.inr x) h none → bkH G h none H → va_S (bkA G) s.heap H locs → H[q]? = some ce → ce.vm = .none → s.vm.findClass (bkEx x) = some ce.cls → vx_W p (gl G) e R s m args below meth c H locs k n Q (F0 m pc ls rest) q) ∧
  (∀ (idx x ic pc : Nat) (st : List Value) (h : bkHS) (z : Option Nat) (k n : Nat) (H : Heap) (locs : List Loc) (ls : Array Slot), decode (mB M) pc = .ok (.new idx, 3) → bkLk (mO M) idx = some (kX x ic) → ¬ ic = 0 → bkPat M pc ic = true → mH M = [] → cats st ≤ 8 → k + 1 ≤ mC M → n + 6 ≤ mS M → Post (.inr x) h none → bkH G h z H → va_S (bkA G) s.heap H locs → ls.size = mL M → W p (gl G) e R s m args below meth c H locs k n Q (F0 m pc ls st)) ∧
  c.exceptionTable.toList = tableOf (mH M)
theorem bkHan_spec (hB : bkB p R s m args meth c G M) {pc x : Nat} : ∀ {hh : List (Nat × Nat × Nat × Nat)} {hp : Nat}, bkHan hh (mO M) pc x = some hp →
    ∃ (pre : List ExceptionTableEntry) (w : ExceptionTableEntry) (suf : List ExceptionTableEntry), tableOf hh = pre ++ w :: suf ∧
      (∀ z ∈ pre, covers z pc = false ∨ (z.catchType ≠ 0 ∧ ∃ nm : String, (Cond.classLink (bkRN (mO M)) z.catchType nm).before args s = true ∧ va_Nc (bkEx x) nm s)) ∧ covers w pc = true ∧ w.catchType ≠ 0 ∧ (Cond.classLink (bkRN (mO M)) w.catchType (bkEx x)).before args s = true ∧ (Cond.castable (bkEx x) (bkEx x)).before args s = true ∧ w.handlerPc = hp := by
  obtain ⟨hx, hb, hml, hown, hts, hBs, hF, ho, hR, hlks, -⟩ := hB
  intro hh
  induction hh with
  | nil => intro hp h; cases h
  | cons q r ih =>
    obtain ⟨a, b, h1, ci⟩ := q
    intro hp h
    have hcons : tableOf ((a, b, h1, ci) :: r) = ⟨a, b, h1, ci⟩ :: tableOf r := rfl
    unfold bkHan at h
    by_cases hc : a ≤ pc ∧ pc < b
    · rw [if_pos hc] at h
      by_cases hci : ci = 0
      · rw [if_pos hci] at h; cases h
      rw [if_neg hci] at h
      split at h
      · rename_i x2 ic hlk
        have hL := bkLk_ok ho hlk
        obtain ⟨hcl, -, hca, -⟩ := hL
        by_cases he : x2 = x
        · subst he
          rw [if_pos rfl] at h
          cases h
          refine ⟨[], ⟨a, b, h1, ci⟩, tableOf r, rfl, fun z hz => absurd hz List.not_mem_nil, ?_, hci, hts _ hcl, va_Nw.use rfl (hF.2.2.2.2.1 _ hca), rfl⟩
          unfold covers
          simp [hc.1, hc.2]
        · rw [if_neg he] at h
          by_cases hn : bkNcs.contains (x, x2) = true
          · rw [if_pos hn] at h
            obtain ⟨pre, w, suf, e1, e2, e3⟩ := ih h
            refine ⟨⟨a, b, h1, ci⟩ :: pre, w, suf, by rw [hcons, e1]; rfl, fun z hz => ?_, e3⟩
            rcases List.mem_cons.mp hz with rfl | hz
            · exact Or.inr ⟨hci, bkEx x2, hts _ hcl, hF.2.2.2.2.2.2.2.2 (x, x2) (by simpa using hn)⟩
            · exact e2 z hz
          · rw [if_neg hn] at h; cases h
      · cases h
    · rw [if_neg hc] at h
      obtain ⟨pre, w, suf, e1, e2, e3⟩ := ih h
      refine ⟨⟨a, b, h1, ci⟩ :: pre, w, suf, by rw [hcons, e1]; rfl, fun z hz => ?_, e3⟩
      rcases List.mem_cons.mp hz with rfl | hz
      · refine Or.inl ?_
        unfold covers
        simp only [Bool.and_eq_false_iff, decide_eq_false_iff_not]
        omega
      · exact e2 z hz
theorem bk_sndX {Post : bkPo} (hB : bkB p R s m args meth c G M) (hE : bkEnds p e R s m args below meth c Q G M Post) {pc x : Nat} {lv : List (Option Value)} {rest : List Value} {h : bkHS} {k n : Nat} {H : Heap} {locs : List Loc} {ls : Array Slot} {q : Nat} {ce : Cell}
    (hs : bkX M Post (bkV0 p e R s m args below meth c Q G M) pc lv x h k n) (hL : bkLs ls (mL M) lv) (hx6 : x < 6) (hH : bkH G h none H) (hS : va_S (bkA G) s.heap H locs) (hce : H[q]? = some ce) (hcv : ce.vm = .none) (hcl : s.vm.findClass (bkEx x) = some ce.cls) :
    vx_W p (gl G) e R s m args below meth c H locs k n Q (F0 m pc ls rest) q := by
  obtain ⟨-, hE2, -, hT⟩ := hE
  unfold bkX at hs
  split at hs
  · rename_i hh
    exact hE2 x pc rest h k n H locs ls q ce hh hx6 hs.1 hs.2.1 hs.2.2 hH hS hce hcv hcl
  · rename_i hh9 hh
    split at hs
    · rename_i hp hhp
      obtain ⟨pre, w, suf, e1, e2, e3, e4, e5, e6, e7⟩ := bkHan_spec hB hhp
      have hown := hB.2.2.2.1
      refine vx_catch hown pre w suf (by rw [hT, e1]) e2 e3 e4 e5 e6 hce hcv hcl ?_
      rw [e7]
      exact hs q H locs ls hH hS hL
    · exact hs.elim
theorem bk_sndK {Post : bkPo} (hB : bkB p R s m args meth c G M) (hE : bkEnds p e R s m args below meth c Q G M Post) {pc : Nat} {lv : List (Option Value)} {st rest : List Value} {k n mc ms : Nat} {H : Heap} {locs : List Loc} {ls : Array Slot} {a : Array Value} (hL : bkLs ls (mL M) lv) (hS : va_S (bkA G) s.heap H locs)
    (hr : vx_Run p (gl G) e R s m args below meth c H locs k n mc ms (F0 m pc ls st) rest (bkQc G (bkK M Post (bkV0 p e R s m args below meth c Q G M) pc lv rest (k + mc) (n + ms)) a) (bkXc G (bkK M Post (bkV0 p e R s m args below meth c Q G M) pc lv rest (k + mc) (n + ms))) (bkA G)) :
    W p (gl G) e R s m args below meth c H locs k n Q (F0 m pc ls st) := by
  refine bk_run hB hS hr (fun v h z H1 locs1 hp hb hS1 => ?_) (fun x h H1 locs1 q ce hp hx6 hb hS1 g1 g2 g3 => ?_)
  · exact hp H1 locs1 ls hb hS1 hL
  · exact bk_sndX hB hE hp hL hx6 hb hS1 g1 g2 g3
end Snd
