/-! 13: a method's contract out of the small machine -/
theorem bkPat_spec {M : bkM} {pc ic : Nat} (h : bkPat M pc ic = true) : decode (mB M) (pc + 3) = .ok (.dup, 1) ∧ ∃ (is : Nat) (text : String), (mO M, is, text) ∈ bkStr ∧
    ((decode (mB M) (pc + 4) = .ok (.ldc is, 2) ∧ decode (mB M) (pc + 6) = .ok (.invokespecial ic, 3) ∧ decode (mB M) (pc + 9) = .ok (.athrow, 1)) ∨
     (decode (mB M) (pc + 4) = .ok (.ldc_w is, 3) ∧ decode (mB M) (pc + 7) = .ok (.invokespecial ic, 3) ∧ decode (mB M) (pc + 10) = .ok (.athrow, 1))) := by
  unfold bkPat at h
  rw [Bool.and_eq_true] at h
  obtain ⟨h1, h2⟩ := h
  refine ⟨?_, ?_⟩
  · revert h1
    split
    · intro _; assumption
    · intro h; cases h
  · revert h2
    split
    · rename_i is hd
      intro h2
      rw [Bool.and_eq_true, Bool.and_eq_true] at h2
      obtain ⟨⟨h3, h4⟩, h5⟩ := h2
      obtain ⟨q, hq, hq2⟩ := List.any_eq_true.mp h3
      rw [Bool.and_eq_true] at hq2
      have e1 : q.1 = mO M := eq_of_beq hq2.1
      have e2 : q.2.1 = is := eq_of_beq hq2.2
      refine ⟨is, q.2.2, by rw [← e1, ← e2]; exact hq, Or.inl ⟨hd, ?_, ?_⟩⟩
      · revert h4
        split
        · rename_i j hj
          intro h4
          have e3 : j = ic := eq_of_beq h4
          rw [← e3]; exact hj
        · intro h; cases h
      · revert h5
        split
        · intro _; assumption
        · intro h; cases h
    · rename_i is hd
      intro h2
      rw [Bool.and_eq_true, Bool.and_eq_true] at h2
      obtain ⟨⟨h3, h4⟩, h5⟩ := h2
      obtain ⟨q, hq, hq2⟩ := List.any_eq_true.mp h3
      rw [Bool.and_eq_true] at hq2
      have e1 : q.1 = mO M := eq_of_beq hq2.1
      have e2 : q.2.1 = is := eq_of_beq hq2.2
      refine ⟨is, q.2.2, by rw [← e1, ← e2]; exact hq, Or.inr ⟨hd, ?_, ?_⟩⟩
      · revert h4
        split
        · rename_i j hj
          intro h4
          have e3 : j = ic := eq_of_beq h4
          rw [← e3]; exact hj
        · intro h; cases h
      · revert h5
        split
        · intro _; assumption
        · intro h; cases h
    · intro h; cases h
section Snd
variable {p : Program} {e : Env} {R : Room} {s : State} {m : MethodId} {args : Array Value} {below : List Frame} {meth : Method} {c : Code} {G : bkG} {M : bkM}
/-- a throw's words -/
theorem bk_thrWords (hB : bkB p R s m args meth c G M) {idx x ic : Nat} (hlk : bkLk (mO M) idx = some (kX x ic)) (hic : ¬ ic = 0) : (Cond.classLink (bkRN (mO M)) idx (bkEx x)).before args s = true ∧ x < 6 ∧ (Cond.initialized (bkEx x)).before args s = true ∧ Bundle.fit (bkEx x) = true ∧
    (∀ w ∈ bkAt (bkRN (mO M)) ic x, w.before args s = true) ∧ (∀ w ∈ Cond.classLink (bkRN (mO M)) idx (bkEx x) :: Cond.initialized (bkEx x) :: bkAt (bkRN (mO M)) ic x, vx_ot w = true) := by
  obtain ⟨hx, hb, hml, hown, hts, hBs, hF, ho, hR, hlks, -⟩ := hB
  obtain ⟨h1, h2, h3, h4⟩ := bkLk_ok ho hlk
  obtain ⟨h5, h6, h7⟩ := h4 hic
  have h8 : ∀ w ∈ bkAt (bkRN (mO M)) ic x, w ∈ ga ∨ (w ∈ bkNw ∧ w.onTables = true) := fun w hw => by
    have h9 := List.all_eq_true.mp h7 w hw
    rw [Bool.or_eq_true, Bool.and_eq_true, Bool.and_eq_true, Bool.and_eq_true] at h9
    rcases h9 with ⟨a, b⟩ | ⟨⟨a, a2⟩, b⟩
    · exact Or.inl (List.mem_filter.mpr ⟨of_decide_eq_true b, a⟩)
    · exact Or.inr ⟨List.mem_filter.mpr ⟨of_decide_eq_true b, a⟩, a2⟩
  have ot : ∀ w, w ∈ ga → vx_ot w = true := fun w hw => by
    unfold vx_ot
    rw [(List.mem_filter.mp hw).2]
    simp
  refine ⟨hts _ h1, h2, hts _ h5, h6, fun w hw => ?_, fun w hw => ?_⟩
  · rcases h8 w hw with h | h
    · exact hts w h
    · exact va_Nw.use h.2 (hF.2.2.2.2.1 w h.1)
  · rcases List.mem_cons.mp hw with rfl | hw
    · exact ot _ h1
    · rcases List.mem_cons.mp hw with rfl | hw
      · exact ot _ h5
      · rcases h8 w hw with h | h
        · exact ot _ h
        · unfold vx_ot
          rw [h.2]
          rfl
theorem bk_ends {Post : bkPo} (hB : bkB p R s m args meth c G M) (hr : meth.sig.returnType = mR M) (hR : R = bkRm M) (hT : c.exceptionTable.toList = tableOf (mH M)) :
    bkEnds p e R s m args below meth c (vx_MQ below (bkQc G Post) (bkXc G Post) args s (mC M) (mS M) (bkA G)) G M Post := by
  have hB0 := hB
  obtain ⟨hx, hb, hml, hown, hts, hBs, hF, ho, -, hlks, -⟩ := hB
  refine ⟨fun i v pc h z k n H locs ls hd hok hk hn hp hH hS => ?_, fun x pc rest h k n H locs ls q ce hh hx6 hk hn hp hH hS g1 g2 g3 => ?_, fun idx x ic pc st h z k n H locs ls hd hlk h1 h2 h3 h4 h5 h6 h7 hH hS hls => ?_, hT⟩
  · have hq : ∀ t : State, t.heap = H → s.WarmedH t.vm → bkQc G Post args s (.returned v) t := fun t ht _ => ⟨⟨v, h, z, rfl, hp, by rw [ht]; exact hH⟩, hS.F ht⟩
    refine vx_ret (W.widen hk hn ?_)
    unfold bkRetOK at hok
    split at hok
    · rename_i x
      unfold bkRt at hok
      split at hok
      · rename_i h9
        exact W.iret hx hb (hr.trans h9) hq hS.2.2 hd
      · rename_i h9
        exact W.zret hx hb (hr.trans h9) (by rcases hok with rfl | rfl <;> rfl) hq hS.2.2 hd
      · exact hok.elim
    · exact W.lret hx hb (hr.trans hok) hq hS.2.2 hd
    · exact W.dret hx hb (hr.trans hok) hq hS.2.2 hd
    · exact W.vret hx hb (hr.trans hok) hq hS.2.2 hd
    · exact hok.elim
  · refine vx_widen hk hn (vx_out (fun w hw => ?_) hlks g1 g2 g3 (fun t ht _ => ⟨⟨x, h, rfl, hx6, hp, by rw [ht]; exact hH⟩, hS.F ht⟩) hS.2.2 (Nat.le_refl _) (Nat.le_refl _))
    rw [hT, hh] at hw
    cases hw
  · obtain ⟨w1, w2, w3, w4, w5, w6⟩ := bk_thrWords hB0 hlk h1
    obtain ⟨d3, is, text, hs1, hs2⟩ := bkPat_spec h2
    obtain ⟨sa, hsa⟩ := hF.2.2.2.1 _ hs1
    have hcat : (st.map fun v => v.category).sum ≤ 8 := h4
    have hout : ∀ (w : ExceptionTableEntry), w ∈ c.exceptionTable.toList → ∀ q, covers w q = false := fun w hw => by
      rw [hT, h3] at hw
      cases hw
    have hX : ∀ t : State, s.vm.Alike t.vm → H.size ≤ t.heap.size → (∀ q : Nat, q < H.size → t.heap[q]? = H[q]?) → bkXc G Post (bkEx x) s t := fun t _ g1 g2 => by
      refine ⟨⟨x, h, rfl, w2, h7, fun a en ha => ⟨((hH.1 a en ha).1).kept (g2 a (hH.lt ha)), (hH.1 a en ha).2⟩, fun q hq => by cases hq⟩, Nat.le_trans hS.1 g1, fun q a1 a2 => ?_⟩
      rw [g2 q (Nat.lt_of_lt_of_le a1 hS.1)]
      exact hS.2.1 q a1 a2
    subst hR
    by_cases hx4 : x = 4
    · subst hx4
      exact nse_throw hx hb hF.2.2.2.2.2.2.2.1 hown w1 w3 hsa w5 w6 hF.2.1 hF.2.2.1 hS (hls.trans hml.symm) hd d3 hs2 hout (by show 5 < 8 + mV M; omega) (by show _ + 82 ≤ 400 + 40 * mV M; omega) h5 h6 hlks hX hS.2.2 h5 h6
    · have hat : bkAt (bkRN (mO M)) ic x = vx_atS (bkRN (mO M)) ic (bkEx x) bkXs := by
        unfold bkAt
        split
        · exact absurd rfl hx4
        · rfl
      rw [hat] at w5 w6
      rcases hs2 with ⟨d4, d6, d9⟩ | ⟨d4, d7, d10⟩
      · exact vx_throwS hx hb hF.2.2.2.2.2.2.2.1 hown w4 (by decide +kernel) w1 w3 hsa w5 w6 hF.2.1 hF.2.2.1 hS (hls.trans hml.symm) hd d3 d4 d6 d9 (fun w hw => hout w hw _) (by show 5 < 8 + mV M; omega) (by show _ + 82 ≤ 400 + 40 * mV M; omega) h5 h6 hlks hX hS.2.2 h5 h6
      · exact vx_throwSW hx hb hF.2.2.2.2.2.2.2.1 hown w4 (by decide +kernel) w1 w3 hsa w5 w6 hF.2.1 hF.2.2.1 hS (hls.trans hml.symm) hd d3 d4 d7 d10 (fun w hw => hout w hw _) (by show 5 < 8 + mV M; omega) (by show _ + 82 ≤ 400 + 40 * mV M; omega) h5 h6 hlks hX hS.2.2 h5 h6
end Snd
theorem lv_args_mem {v : Value} : ∀ (av : List Value) (k i : Nat), (∀ w ∈ av, w.category = 1) → av[i]? = some v → (k + i, v) ∈ lv_args k av := by
  intro av
  induction av with
  | nil => intro k i _ h; cases h
  | cons w r ih =>
    intro k i hc h
    have hw := hc w List.mem_cons_self
    show (k + i, v) ∈ (k, w) :: lv_args (if w.category = 2 then k + 2 else k + 1) r
    rw [if_neg (by omega)]
    cases i with
    | zero => cases h; exact List.mem_cons_self
    | succ i =>
      have := ih (k + 1) i (fun w hw => hc w (List.mem_cons_of_mem _ hw)) h
      rw [show k + 1 + i = k + (i + 1) by omega] at this
      exact List.mem_cons_of_mem _ this
theorem lg_sl_len : ∀ (av : List Value), (∀ w ∈ av, w.category = 1) → (lg_sl av).length = av.length := by
  intro av
  induction av with
  | nil => intro _; rfl
  | cons w r ih =>
    intro hc
    have hw := hc w List.mem_cons_self
    have := ih (fun w hw => hc w (List.mem_cons_of_mem _ hw))
    have e : lg_sl (w :: r) = .val w :: lg_sl r := by
      unfold lg_sl
      simp [hw]
    rw [e, List.length_cons, this, List.length_cons]
/-- the locals at a method's entry -/
def bkEn (M : bkM) (av : List Value) : List (Option Value) := av.map some ++ List.replicate (mL M - av.length) none
theorem bkEn_ls {M : bkM} {av : List Value} (hc : ∀ w ∈ av, w.category = 1) (hl : av.length ≤ mL M) : bkLs ((lg_sl av ++ List.replicate (mL M - (lg_sl av).length) Slot.unset).toArray) (mL M) (bkEn M av) := by
  have h := lv_entry av (n := mL M) (by rw [lg_sl_len av hc]; exact hl)
  refine ⟨by unfold bkEn; simp; omega, h.1, h.2.1, fun i v hi => ?_⟩
  unfold bkEn at hi
  by_cases hil : i < av.length
  · rw [List.getElem?_append_left (by simpa using hil), List.getElem?_map] at hi
    cases ha : av[i]? with
    | none => rw [ha] at hi; cases hi
    | some w =>
      rw [ha] at hi
      cases hi
      have := lv_args_mem av 0 i hc ha
      rw [Nat.zero_add] at this
      exact h.2.2 _ this
  · rw [List.getElem?_append_right (by simpa using hil), List.getElem?_replicate] at hi
    split at hi <;> cases hi
/-- THE RULE: a contract from the walk of the body -/
theorem bk_meth {G : bkG} {M : bkM} (hM : MethOK M) (ho : mO M < 12) {av : List Value} (hc : ∀ w ∈ av, w.category = 1) (hl : av.length ≤ mL M) {h : bkHS} {z : Option Nat} {Post : bkPo}
    (hw : wp G M Post 0 (bkEn M av) [] h z 0 0) : CM G M av h z Post := by
  have hcode := hM.1
  have body : ∀ (p : Program) (e : Env) (s : State) (m : MethodId) (args : Array Value) (below : List Frame) (meth : Method) (c : Code) (s₁ : State), BodyLoose p (gl G) (mY M) (headSpec (bkWs M) (bkRm M)) (mB M) (mL M) (mR M) e s m args below meth c s₁ → c.maxLocals = mL M → c.exceptionTable.toList = tableOf (mH M) → va_Pc av (bkS G h z) args s →
      W p (gl G) e (headSpec (bkWs M) (bkRm M)).room s m args below meth c s.heap [] 0 0 (vx_MQ below (bkQc G Post) (bkXc G Post) args s (mC M) (mS M) (bkA G)) (entryFrame m args (mL M)) := by
    intro p e s m args below meth c s₁ B hml hT ⟨hav, hBs, hF, hH⟩
    subst hav
    have hts := atoms_spec (ws := bkWs M) B.pre
    have hB : bkB p (bkRm M) s m av.toArray meth c G M := ⟨B.exec, B.bytes, hml, by rw [← hM.2.2.1]; exact findClass_of_methodNamed B.named, fun w hw => hts w (List.mem_cons_of_mem _ hw), hBs, hF, ho, ⟨Nat.le_refl _, Nat.le_refl _, Nat.le_refl _, Nat.le_refl _⟩, B.notSynchronized, fun hct => by
      have h1 := (name_of_methodNamed B.named B.method).1
      rw [h1]
      exact eq_of_beq hct⟩
    have hE := bk_ends (e := e) (below := below) (Post := Post) hB B.returns rfl hT
    rw [lg_entry_eq]
    have h9 := hw (bkV0 p e (bkRm M) s m av.toArray below meth c (vx_MQ below (bkQc G Post) (bkXc G Post) av.toArray s (mC M) (mS M) (bkA G)) G M) (fun pc lv st h z k n hs => bk_sndB hB hE hs)
    exact h9 s.heap [] _ hH va_S.rf (bkEn_ls hc hl)
  cases hh : mH M with
  | nil =>
    have hw9 : bkWc M = .code (mY M) (mB M) (mL M) (mR M) := by unfold bkWc; rw [hh]
    refine vx_ofW (cc := mB M) (maxL := mL M) (ret := mR M) (ws' := ga) hM.2.2.2.2 (by unfold bkWs; rw [hw9]) (fun p e s m args below meth c s₁ B hml ht hv => body p e s m args below meth c s₁ B hml ?_ hv)
    rw [hh]
    exact List.eq_nil_iff_forall_not_mem.mpr fun x hx => ht x hx
  | cons q qs =>
    have hw9 : bkWc M = .codeWith (mY M) (mB M) (mL M) (mR M) (q :: qs) := by unfold bkWc; rw [hh]
    refine vx_ofWH (cc := mB M) (maxL := mL M) (ret := mR M) (hh := q :: qs) (ws' := ga) hM.2.2.2.2 (by unfold bkWs; rw [hw9]) (fun p e s m args below meth c s₁ B hml hv => body p e s m args below meth c s₁ B hml ?_ hv)
    rw [hh]
    have hts := atoms_spec (ws := bkWs M) B.pre
    exact vx_table (x := mY M) B (by rw [← hw9]; exact hts _ List.mem_cons_self)
