/-! 08: the instructions of the heap, one by one -/
theorem fOk_spec {o : Option bkE} {ci k : Nat} (h : fOk o ci k = true) : ∃ fs : List Value, o = some (.inl (ci, fs)) ∧ k < fs.length := by
  unfold fOk at h
  split at h
  · rename_i c fs
    rw [Bool.and_eq_true] at h
    have h1 : c = ci := eq_of_beq h.1
    subst h1
    exact ⟨fs, rfl, of_decide_eq_true h.2⟩
  · cases h
theorem bkIn_spec {α : Type} {o : Option (Nat × (Nat → α))} {i : Int32} (h : bkIn o i) : ∃ q, o = some q ∧ vp_in i q.1 := by
  unfold bkIn at h
  split at h
  · exact ⟨_, rfl, h⟩
  · exact h.elim
theorem rIw_spec {o : Option bkE} {q : Nat × (Nat → Int32)} (h : rIw o = some q) : o = some (.inr (.inl q)) := by
  unfold rIw at h
  split at h
  · cases h; rfl
  · cases h
theorem rL_spec {o : Option bkE} {q : Nat × (Nat → Int64)} (h : rL o = some q) : o = some (.inr (.inr (.inl q))) := by
  unfold rL at h
  split at h
  · cases h; rfl
  · cases h
theorem rC_spec {o : Option bkE} {q : Nat × (Nat → Int32)} (h : rC o = some q) : o = some (.inr (.inr (.inr (.inl q)))) := by
  unfold rC at h
  split at h
  · cases h; rfl
  · cases h
theorem rD_spec {o : Option bkE} {q : Nat × (Nat → UInt64)} (h : rD o = some q) : o = some (.inr (.inr (.inr (.inr (.inl q))))) := by
  unfold rD at h
  split at h
  · cases h; rfl
  · cases h
theorem rQ_spec {o : Option bkE} {q : Nat × (Nat → Option Nat)} (h : rQ o = some q) : o = some (.inr (.inr (.inr (.inr (.inr q))))) := by
  unfold rQ at h
  split at h
  · cases h; rfl
  · cases h
theorem rI_spec {G : bkG} {h : bkHS} {a : Nat} {q : Nat × (Nat → Int32)} (hr : rI G h a = some q) : h a = some (.inr (.inl q)) ∨ (h a = none ∧ gR G a = some q) := by
  unfold rI at hr
  split at hr
  · rename_i h1
    cases hr; exact Or.inl h1
  · cases hr
  · rename_i h1
    exact Or.inr ⟨h1, hr⟩
theorem vp_in_lt {i : Int32} {n : Nat} (h : vp_in i n) : i.toNatClampNeg < n := Nat.not_le.mp fun q => h (Or.inr q)
section Snd
variable {p : Program} {e : Env} {R : Room} {s : State} {m : MethodId} {args : Array Value} {below : List Frame} {meth : Method} {c : Code} {Q : State → Prop} {G : bkG} {M : bkM}
theorem snd_getfield (hB : bkB p R s m args meth c G M) {idx pc : Nat} {lv : List (Option Value)} {st : List Value} {h : bkHS} {z : Option Nat} {k n : Nat} (hd : decode (mB M) pc = .ok (.getfield idx, 3)) {Post : bkPo}
    (hs : stpB G (CM G) M Post (.getfield idx) pc 3 lv st h z k n (bkV0 p e R s m args below meth c Q G M)) : bkV0 p e R s m args below meth c Q G M pc lv st h z k n := by
  intro H locs ls hH hS hL
  obtain ⟨hx, hb, hml, hown, hts, hBs, hF, ho, -⟩ := hB
  obtain ⟨a, r, rfl, hs1⟩ := pR_spec hs
  clear hs
  split at hs1
  · rename_i ci f hlk
    obtain ⟨h1, h2⟩ := hs1
    obtain ⟨fs, h3, h4⟩ := fOk_spec h1
    obtain ⟨C, T, N, c1, c2, c3⟩ := bkLk_ok ho hlk
    have h2 := h2 H locs ls hH hS hL
    rw [h3] at h2
    refine va_get hx hb hts (bk_cls_ga c1) hown hF.1 (hH.get h3) 0 (v := fs.getD f .null) rfl c1 f c2 (hts _ c3) (fun _ h => h) ?_ hd h2
    rw [List.getD_eq_getElem?_getD, List.getElem?_eq_getElem h4]
    rfl
  · exact hs1.elim
theorem snd_putfield (hB : bkB p R s m args meth c G M) {idx pc : Nat} {lv : List (Option Value)} {st : List Value} {h : bkHS} {z : Option Nat} {k n : Nat} (hd : decode (mB M) pc = .ok (.putfield idx, 3)) {Post : bkPo}
    (hs : stpB G (CM G) M Post (.putfield idx) pc 3 lv st h z k n (bkV0 p e R s m args below meth c Q G M)) : bkV0 p e R s m args below meth c Q G M pc lv st h z k n := by
  intro H locs ls hH hS hL
  obtain ⟨hx, hb, hml, hown, hts, hBs, hF, ho, hR, hlks, hct⟩ := hB
  obtain ⟨v, r1, rfl, hs1⟩ := pV_spec hs
  clear hs
  obtain ⟨a, r, rfl, hs2⟩ := pR_spec hs1
  clear hs1
  split at hs2
  · rename_i ci f hlk
    obtain ⟨h1, h5, h6, h2⟩ := hs2
    obtain ⟨fs, h3, h4⟩ := fOk_spec h1
    obtain ⟨C, T, N, c1, c2, c3⟩ := bkLk_ok ho hlk
    obtain ⟨g1, g2, g3⟩ := bk_cls c1
    have hin := bk_cls_ga c1
    have hap := va_apart (own := bkRN (mO M)) hts hin (bkTy ci) g2 g3 hF.1 c1
    obtain ⟨r9, q0, cell, q1, q2, q3, q4⟩ := (hH.1 a _ h3).1
    have hr : r9 = (C, T, N) := Option.some.inj (q0.symm.trans c1)
    subst hr
    obtain ⟨hSl, hfc, kC, hkC, hkind⟩ := hF.1.1 ci _ c1
    obtain ⟨cf, kf, fi, fd, hi, hsl⟩ := hSl f c2
    have hlay := hts _ (hin _ (u_in_lay c2))
    have hst := (u_facts hfc hkC (u_lays hts hin c2) hi).1
    have hfin : (T f).2.2.2 = false ∨ ((T f).2.2.2 = true ∧ (mY M).name = "<init>" ∧ (T f).1 = bkRN (mO M)) := by
      unfold bkFi at h5
      rw [c1] at h5
      cases hT : (T f).2.2.2 with
      | false => exact Or.inl rfl
      | true =>
        refine Or.inr ⟨rfl, ?_⟩
        dsimp only at h5
        rw [hT] at h5
        have h5 : (((mY M).name == "<init>" && C == bkRN (mO M)) && (T f).1 == bkRN (mO M)) = true := h5
        simp only [Bool.and_eq_true] at h5
        exact ⟨eq_of_beq h5.1.1, eq_of_beq h5.2⟩
    have hat : ∀ H' : Heap, H'[a]? = some (cell.setSlot fd.slot v) → va_at (gD G) bkCl (a, bkc (gA G) (.inl (ci, fs.set f v))) H' := fun H' e1 => by
      rw [hsl] at e1
      exact ⟨_, c1, t_OB.to (V := updV (vp_V fs) f v) ⟨_, e1, q2, q3, t_set q4 hap c2 v⟩ (fun j _ => vp_updV_set h4 v j)⟩
    rw [h3] at h2
    rcases hfin with hfin | ⟨hfin, hini, hdecl⟩
    · unfold u_lay at hlay
      rw [if_neg (by rw [hfin]; decide)] at hlay
      have h7 := u_store hfc hkC hkind hlay hi (g2 f c2) h6.1 h6.2
      refine W.putK hx hb (f := fd) ⟨hown, hts _ c3, ⟨_, _, _, hi⟩, hst⟩ (by rw [q2]; exact h7) q1 q3 (by rw [hsl]; exact k2_hasslot (q4 f c2)) rfl rfl hd fun H' e1 e2 e3 => ?_
      exact h2 H' _ ls (hH.put h3 (hat H' e1) e2 e3) (hS.put e2 e3 (hH.1 a _ h3).2) hL
    · unfold u_lay at hlay
      rw [if_pos hfin] at hlay
      have hcf : m.cls = cf := by
        obtain ⟨_, _, c', _, _, _, -, -, hf', -, -, -, hown2, -⟩ := Cond.laysFinal_spec hlay
        have e1 : c' = cf := by have := hi.symm.trans hf'; simp at this; exact this.1.symm
        rw [hdecl] at hown2
        rw [← e1]; exact Option.some.inj (hown.symm.trans hown2)
      have h7 := u_fits hfc hkC hkind (Or.inr hlay) hi (g2 f c2) h6.1 h6.2
      have hct9 : bkCt M = true := by unfold bkCt; rw [hini]; rfl
      refine W.putFinK hx hb hown (hts _ c3) hi hst hcf (hct hct9) (by rw [q2]; exact h7) q1 q3 (by rw [hsl]; exact k2_hasslot (q4 f c2)) rfl rfl hd fun H' e1 e2 e3 => ?_
      exact h2 H' _ ls (hH.put h3 (hat H' e1) e2 e3) (hS.put e2 e3 (hH.1 a _ h3).2) hL
  · exact hs2.elim
theorem snd_getstatic (hB : bkB p R s m args meth c G M) {idx pc : Nat} {lv : List (Option Value)} {st : List Value} {h : bkHS} {z : Option Nat} {k n : Nat} (hd : decode (mB M) pc = .ok (.getstatic idx, 3)) {Post : bkPo}
    (hs : stpB G (CM G) M Post (.getstatic idx) pc 3 lv st h z k n (bkV0 p e R s m args below meth c Q G M)) : bkV0 p e R s m args below meth c Q G M pc lv st h z k n := by
  intro H locs ls hH hS hL
  obtain ⟨hx, hb, hml, hown, hts, hBs, hF, ho, -⟩ := hB
  unfold stpB at hs
  try dsimp only at hs
  split at hs
  · rename_i i hlk
    obtain ⟨hi, hl⟩ := bkLk_ok ho hlk
    rcases hl with hl | hl
    · exact va_gets hx hb (hF.2.2.2.2.2.1 i hi) hS hown (hts _ hl) (fun _ h => h) hd (hs H locs ls hH hS hL)
    · exact va_getsN hx hb (hF.2.2.2.2.2.1 i hi) hS hown (va_Nw.use rfl (hF.2.2.2.2.1 _ hl)) (fun _ h => h) hd (hs H locs ls hH hS hL)
  · exact hs.elim
theorem snd_ldc (hB : bkB p R s m args meth c G M) {idx pc : Nat} {lv : List (Option Value)} {st : List Value} {h : bkHS} {z : Option Nat} {k n : Nat} (hd : decode (mB M) pc = .ok (.ldc idx, 2)) {Post : bkPo}
    (hs : stpB G (CM G) M Post (.ldc idx) pc 2 lv st h z k n (bkV0 p e R s m args below meth c Q G M)) : bkV0 p e R s m args below meth c Q G M pc lv st h z k n := by
  intro H locs ls hH hS hL
  obtain ⟨hx, hb, hml, hown, hts, hBs, hF, ho, -⟩ := hB
  unfold stpB at hs
  try dsimp only at hs
  split at hs
  · rename_i i hlk
    exact lv_ldc hx hb hown (hts _ (bkLk_ok ho hlk)) hd (hs H locs ls hH hS hL)
  · exact hs.elim
theorem snd_ldcw (hB : bkB p R s m args meth c G M) {idx pc : Nat} {lv : List (Option Value)} {st : List Value} {h : bkHS} {z : Option Nat} {k n : Nat} (hd : decode (mB M) pc = .ok (.ldc_w idx, 3)) {Post : bkPo}
    (hs : stpB G (CM G) M Post (.ldc_w idx) pc 3 lv st h z k n (bkV0 p e R s m args below meth c Q G M)) : bkV0 p e R s m args below meth c Q G M pc lv st h z k n := by
  intro H locs ls hH hS hL
  obtain ⟨hx, hb, hml, hown, hts, hBs, hF, ho, -⟩ := hB
  unfold stpB at hs
  try dsimp only at hs
  split at hs
  · rename_i i hlk
    exact lv_ldcw hx hb hown (hts _ (bkLk_ok ho hlk)) hd (hs H locs ls hH hS hL)
  · exact hs.elim
theorem snd_ldc2 (hB : bkB p R s m args meth c G M) {idx pc : Nat} {lv : List (Option Value)} {st : List Value} {h : bkHS} {z : Option Nat} {k n : Nat} (hd : decode (mB M) pc = .ok (.ldc2_w idx, 3)) {Post : bkPo}
    (hs : stpB G (CM G) M Post (.ldc2_w idx) pc 3 lv st h z k n (bkV0 p e R s m args below meth c Q G M)) : bkV0 p e R s m args below meth c Q G M pc lv st h z k n := by
  intro H locs ls hH hS hL
  obtain ⟨hx, hb, hml, hown, hts, hBs, hF, ho, -⟩ := hB
  unfold stpB at hs
  try dsimp only at hs
  split at hs
  · rename_i i hlk
    exact lv_ldc2 hx hb hown (hts _ (bkLk_ok ho hlk)) hd (hs H locs ls hH hS hL)
  · exact hs.elim
theorem snd_iaload (hB : bkB p R s m args meth c G M) {pc : Nat} {lv : List (Option Value)} {st : List Value} {h : bkHS} {z : Option Nat} {k n : Nat} (hd : decode (mB M) pc = .ok (.iaload, 1)) {Post : bkPo}
    (hs : stpB G (CM G) M Post .iaload pc 1 lv st h z k n (bkV0 p e R s m args below meth c Q G M)) : bkV0 p e R s m args below meth c Q G M pc lv st h z k n := by
  intro H locs ls hH hS hL
  obtain ⟨hx, hb, hml, hown, hts, hBs, hF, ho, -⟩ := hB
  obtain ⟨i, a, r, rfl, h1, hs⟩ := pIR_spec hs
  obtain ⟨q, h2, h3⟩ := bkIn_spec h1
  have hs := hs H locs ls hH hS hL
  rw [h2] at hs
  rcases rI_spec h2 with h4 | ⟨-, h4⟩
  · exact va_iald hx hb hF.1 (hH.get h4) 0 0 rfl rfl h3 hd hs
  · obtain ⟨hro, hlt⟩ := hF.2.2.2.2.2.2.1 a q.1 q.2 h4
    exact va_sld hx hb (L := q.1) (xs := q.2) hro (by omega) (by show ¬ gB G ≤ a; omega) hS h3 hd hs
theorem snd_laload (hB : bkB p R s m args meth c G M) {pc : Nat} {lv : List (Option Value)} {st : List Value} {h : bkHS} {z : Option Nat} {k n : Nat} (hd : decode (mB M) pc = .ok (.laload, 1)) {Post : bkPo}
    (hs : stpB G (CM G) M Post .laload pc 1 lv st h z k n (bkV0 p e R s m args below meth c Q G M)) : bkV0 p e R s m args below meth c Q G M pc lv st h z k n := by
  intro H locs ls hH hS hL
  obtain ⟨hx, hb, hml, hown, hts, hBs, hF, ho, -⟩ := hB
  obtain ⟨i, a, r, rfl, h1, hs⟩ := pIR_spec hs
  obtain ⟨q, h2, h3⟩ := bkIn_spec h1
  have hs := hs H locs ls hH hS hL
  rw [h2] at hs
  exact va_lald hx hb hF.1 (hH.get (rL_spec h2)) 0 1 rfl rfl h3 hd hs
theorem snd_caload (hB : bkB p R s m args meth c G M) {pc : Nat} {lv : List (Option Value)} {st : List Value} {h : bkHS} {z : Option Nat} {k n : Nat} (hd : decode (mB M) pc = .ok (.caload, 1)) {Post : bkPo}
    (hs : stpB G (CM G) M Post .caload pc 1 lv st h z k n (bkV0 p e R s m args below meth c Q G M)) : bkV0 p e R s m args below meth c Q G M pc lv st h z k n := by
  intro H locs ls hH hS hL
  obtain ⟨hx, hb, hml, hown, hts, hBs, hF, ho, -⟩ := hB
  obtain ⟨i, a, r, rfl, h1, hs⟩ := pIR_spec hs
  obtain ⟨q, h2, h3⟩ := bkIn_spec h1
  have hs := hs H locs ls hH hS hL
  rw [h2] at hs
  exact va_cald hx hb hF.1 (hH.get (rC_spec h2)) 0 2 rfl rfl h3 hd hs
theorem snd_daload (hB : bkB p R s m args meth c G M) {pc : Nat} {lv : List (Option Value)} {st : List Value} {h : bkHS} {z : Option Nat} {k n : Nat} (hd : decode (mB M) pc = .ok (.daload, 1)) {Post : bkPo}
    (hs : stpB G (CM G) M Post .daload pc 1 lv st h z k n (bkV0 p e R s m args below meth c Q G M)) : bkV0 p e R s m args below meth c Q G M pc lv st h z k n := by
  intro H locs ls hH hS hL
  obtain ⟨hx, hb, hml, hown, hts, hBs, hF, ho, -⟩ := hB
  obtain ⟨i, a, r, rfl, h1, hs⟩ := pIR_spec hs
  obtain ⟨q, h2, h3⟩ := bkIn_spec h1
  have hs := hs H locs ls hH hS hL
  rw [h2] at hs
  exact va_dald hx hb hF.1 (hH.get (rD_spec h2)) 0 3 rfl rfl h3 hd hs
theorem snd_aaload (hB : bkB p R s m args meth c G M) {pc : Nat} {lv : List (Option Value)} {st : List Value} {h : bkHS} {z : Option Nat} {k n : Nat} (hd : decode (mB M) pc = .ok (.aaload, 1)) {Post : bkPo}
    (hs : stpB G (CM G) M Post .aaload pc 1 lv st h z k n (bkV0 p e R s m args below meth c Q G M)) : bkV0 p e R s m args below meth c Q G M pc lv st h z k n := by
  intro H locs ls hH hS hL
  obtain ⟨hx, hb, hml, hown, hts, hBs, hF, ho, -⟩ := hB
  obtain ⟨i, a, r, rfl, h1, hs⟩ := pIR_spec hs
  obtain ⟨q, h2, h3⟩ := bkIn_spec h1
  have hs := hs H locs ls hH hS hL
  rw [h2] at hs
  exact va_aldq hx hb hF.1 (hH.get (rQ_spec h2)) 0 4 rfl rfl h3 hd hs
theorem snd_iastore (hB : bkB p R s m args meth c G M) {pc : Nat} {lv : List (Option Value)} {st : List Value} {h : bkHS} {z : Option Nat} {k n : Nat} (hd : decode (mB M) pc = .ok (.iastore, 1)) {Post : bkPo}
    (hs : stpB G (CM G) M Post .iastore pc 1 lv st h z k n (bkV0 p e R s m args below meth c Q G M)) : bkV0 p e R s m args below meth c Q G M pc lv st h z k n := by
  intro H locs ls hH hS hL
  obtain ⟨hx, hb, hml, hown, hts, hBs, hF, ho, -⟩ := hB
  obtain ⟨x, r, rfl, hs⟩ := pI_spec hs
  obtain ⟨i, a, r, rfl, h1, hs⟩ := pIR_spec hs
  obtain ⟨q, h2, h3⟩ := bkIn_spec h1
  have h4 := rIw_spec h2
  rw [h2] at hs
  refine W.iast hx hb (bk_atI.mp (hH.1 a _ h4).1) ((hF.1.2 0 _ rfl).1 q.1 _) (fun z => by cases z) (by rw [arrV_size]; exact h3) rfl rfl hd fun H1 e1 e2 e3 => ?_
  rw [bk_store (fun j => Value.int j)] at e1
  exact hs H1 _ ls (hH.put h4 (bk_atI.mpr e1) e2 e3) (hS.put e2 e3 (hH.1 a _ h4).2) hL
theorem snd_lastore (hB : bkB p R s m args meth c G M) {pc : Nat} {lv : List (Option Value)} {st : List Value} {h : bkHS} {z : Option Nat} {k n : Nat} (hd : decode (mB M) pc = .ok (.lastore, 1)) {Post : bkPo}
    (hs : stpB G (CM G) M Post .lastore pc 1 lv st h z k n (bkV0 p e R s m args below meth c Q G M)) : bkV0 p e R s m args below meth c Q G M pc lv st h z k n := by
  intro H locs ls hH hS hL
  obtain ⟨hx, hb, hml, hown, hts, hBs, hF, ho, -⟩ := hB
  obtain ⟨x, r, rfl, hs⟩ := pL_spec hs
  obtain ⟨i, a, r, rfl, h1, hs⟩ := pIR_spec hs
  obtain ⟨q, h2, h3⟩ := bkIn_spec h1
  have h4 := rL_spec h2
  rw [h2] at hs
  refine W.last hx hb (bk_atL.mp (hH.1 a _ h4).1) ((hF.1.2 1 _ rfl).1 q.1 _) (fun z => by cases z) (by rw [arrV_size]; exact h3) rfl rfl hd fun H1 e1 e2 e3 => ?_
  rw [bk_store (fun j => Value.long j)] at e1
  exact hs H1 _ ls (hH.put h4 (bk_atL.mpr e1) e2 e3) (hS.put e2 e3 (hH.1 a _ h4).2) hL
theorem snd_castore (hB : bkB p R s m args meth c G M) {pc : Nat} {lv : List (Option Value)} {st : List Value} {h : bkHS} {z : Option Nat} {k n : Nat} (hd : decode (mB M) pc = .ok (.castore, 1)) {Post : bkPo}
    (hs : stpB G (CM G) M Post .castore pc 1 lv st h z k n (bkV0 p e R s m args below meth c Q G M)) : bkV0 p e R s m args below meth c Q G M pc lv st h z k n := by
  intro H locs ls hH hS hL
  obtain ⟨hx, hb, hml, hown, hts, hBs, hF, ho, -⟩ := hB
  obtain ⟨x, r, rfl, hs⟩ := pI_spec hs
  obtain ⟨i, a, r, rfl, h1, hs⟩ := pIR_spec hs
  obtain ⟨q, h2, h3⟩ := bkIn_spec h1
  have h4 := rC_spec h2
  rw [h2] at hs
  refine W.cast hx hb (bk_atC.mp (hH.1 a _ h4).1) ((hF.1.2 2 _ rfl).1 q.1 _) (fun z => by cases z) (by rw [arrV_size]; exact h3) rfl rfl hd fun H1 e1 e2 e3 => ?_
  rw [show narrow FieldType.char (Value.int x) = Value.int (vp_nar .char x) from rfl, bk_store (fun j => Value.int j)] at e1
  exact hs H1 _ ls (hH.put h4 (bk_atC.mpr e1) e2 e3) (hS.put e2 e3 (hH.1 a _ h4).2) hL
theorem snd_dastore (hB : bkB p R s m args meth c G M) {pc : Nat} {lv : List (Option Value)} {st : List Value} {h : bkHS} {z : Option Nat} {k n : Nat} (hd : decode (mB M) pc = .ok (.dastore, 1)) {Post : bkPo}
    (hs : stpB G (CM G) M Post .dastore pc 1 lv st h z k n (bkV0 p e R s m args below meth c Q G M)) : bkV0 p e R s m args below meth c Q G M pc lv st h z k n := by
  intro H locs ls hH hS hL
  obtain ⟨hx, hb, hml, hown, hts, hBs, hF, ho, -⟩ := hB
  obtain ⟨x, r, rfl, hs⟩ := pD_spec hs
  obtain ⟨i, a, r, rfl, h1, hs⟩ := pIR_spec hs
  obtain ⟨q, h2, h3⟩ := bkIn_spec h1
  have h4 := rD_spec h2
  rw [h2] at hs
  refine W.dast hx hb (bk_atD.mp (hH.1 a _ h4).1) ((hF.1.2 3 _ rfl).1 q.1 _) (fun z => by cases z) (by rw [arrV_size]; exact h3) rfl rfl hd fun H1 e1 e2 e3 => ?_
  rw [bk_store (fun j => Value.double j)] at e1
  exact hs H1 _ ls (hH.put h4 (bk_atD.mpr e1) e2 e3) (hS.put e2 e3 (hH.1 a _ h4).2) hL
theorem snd_aastore (hB : bkB p R s m args meth c G M) {pc : Nat} {lv : List (Option Value)} {st : List Value} {h : bkHS} {z : Option Nat} {k n : Nat} (hd : decode (mB M) pc = .ok (.aastore, 1)) {Post : bkPo}
    (hs : stpB G (CM G) M Post .aastore pc 1 lv st h z k n (bkV0 p e R s m args below meth c Q G M)) : bkV0 p e R s m args below meth c Q G M pc lv st h z k n := by
  intro H locs ls hH hS hL
  obtain ⟨hx, hb, hml, hown, hts, hBs, hF, ho, -⟩ := hB
  obtain ⟨x, r, rfl, hs⟩ := pR_spec hs
  obtain ⟨i, a, r, rfl, h1, h5, hs⟩ := pIR_spec hs
  obtain ⟨q, h2, h3⟩ := bkIn_spec h1
  obtain ⟨fs, h6, -⟩ := fOk_spec h5
  have h4 := rQ_spec h2
  rw [h2] at hs
  obtain ⟨r', hr', cellV, g1, g2, g3, -⟩ := (hH.1 x _ h6).1
  have hcls := (hF.1.1 5 _ rfl).2
  obtain ⟨kA, comp, k1, k2, k3, -⟩ := (hF.1.2 4 _ rfl).2
  have hcomp : comp = (gD G).1 5 := Option.some.inj (k3.symm.trans hcls.1)
  subst hcomp
  obtain ⟨kC, hkC, hkk⟩ := hcls.2
  refine W.aast hx hb (bk_atQ.mp (hH.1 a _ h4).1) (fun q h => by cases h) (fun h => by cases h) k1 k2 rfl hkC ⟨fun q => h3 (Or.inl q), by rw [arrV_size]; exact vp_in_lt h3⟩ g1 (fun q h => by rw [g3] at h; cases h) (by rw [g2]; exact hkC) (by rw [g2]; exact va_assign hcls) rfl rfl hd fun H1 e1 e2 e3 => ?_
  rw [show Value.ref x = va_rf (some x) from rfl, bk_store va_rf] at e1
  exact hs H1 _ ls (hH.put h4 (bk_atQ.mpr e1) e2 e3) (hS.put e2 e3 (hH.1 a _ h4).2) hL
theorem snd_arraylength (hB : bkB p R s m args meth c G M) {pc : Nat} {lv : List (Option Value)} {st : List Value} {h : bkHS} {z : Option Nat} {k n : Nat} (hd : decode (mB M) pc = .ok (.arraylength, 1)) {Post : bkPo}
    (hs : stpB G (CM G) M Post .arraylength pc 1 lv st h z k n (bkV0 p e R s m args below meth c Q G M)) : bkV0 p e R s m args below meth c Q G M pc lv st h z k n := by
  intro H locs ls hH hS hL
  obtain ⟨hx, hb, hml, hown, hts, hBs, hF, ho, -⟩ := hB
  obtain ⟨a, r, rfl, hs1⟩ := pR_spec hs
  clear hs
  split at hs1
  · rename_i q hq
    obtain ⟨hro, hlt⟩ := hF.2.2.2.2.2.2.1 a q.1 q.2 hq
    exact va_slen hx hb (L := q.1) (xs := q.2) hro (by omega) (by show ¬ gB G ≤ a; omega) hS hd (hs1 H locs ls hH hS hL)
  · exact hs1.elim
end Snd
