/-! 10: all instructions together; a method's contract out of the small machine -/
theorem arrV_ext (c : ClassId) (n : Nat) {f g : Nat → Value} (h : ∀ j, j < n → f j = g j) : arrV c n f = arrV c n g := by
  unfold arrV
  congr 1
  apply Array.ext
  · simp
  · intro i h1 h2
    simp only [Array.size_ofFn] at h1
    simp [h i h1]
section Snd
variable {p : Program} {e : Env} {R : Room} {s : State} {m : MethodId} {args : Array Value} {below : List Frame} {meth : Method} {c : Code} {Q : State → Prop} {G : bkG} {M : bkM}
theorem snd_call {Post : bkPo} (hB : bkB p R s m args meth c G M) (hE : bkEnds p e R s m args below meth c Q G M Post) {idx pc : Nat} {lv : List (Option Value)} {st : List Value} {h : bkHS} {z : Option Nat} {k n : Nat} {M' : bkM} {i : Instr}
    (hi : i = .invokestatic idx ∧ bkIsS M' = true ∧ bkCt M' = false ∨ i = .invokevirtual idx ∧ bkIsS M' = false ∧ bkCt M' = false ∧ mH M' = [] ∧ bkRcv st h M' ∨ i = .invokespecial idx ∧ bkIsS M' = false ∧ bkCt M' = true ∧ bkRcv st h M')
    (hd : decode (mB M) pc = .ok (i, 3)) (hlk : bkLk (mO M) idx = some (kM M'))
    (hs : bkCall (CM G) M Post (bkV0 p e R s m args below meth c Q G M) pc lv st h z k n M') : bkV0 p e R s m args below meth c Q G M pc lv st h z k n := by
  intro H locs ls hH hS hL
  obtain ⟨h1, h2, h3, h4, h5, h6, hC⟩ := hs
  rcases hi with ⟨rfl, i1, i2⟩ | ⟨rfl, i1, i2, i3, i4⟩ | ⟨rfl, i1, i2, i3⟩
  · rw [i2] at hC
    have hC : CM G M' (st.take (mN M')).reverse h none _ := hC
    exact bk_sndK hB hE hL hS (bk_callS hB hd hlk i1 hS hH.forget hL.2.1 h3 h4 h1 h5 h6 h2 hC)
  · rw [i2] at hC
    have hC : CM G M' (st.take (mN M')).reverse h none _ := hC
    exact bk_sndK hB hE hL hS (bk_callV hB hd hlk i1 i2 i3 i4 hS hH.forget hH hL.2.1 h3 h4 h1 h5 h6 h2 hC)
  · rw [i2] at hC
    have hC : CM G M' (st.take (mN M')).reverse h z _ := hC
    exact bk_sndK hB hE hL hS (bk_callI hB hd hlk i1 i2 i3 hS hH hL.2.1 h3 h4 h1 h5 h6 h2 hC)
theorem snd_static {Post : bkPo} (hB : bkB p R s m args meth c G M) (hE : bkEnds p e R s m args below meth c Q G M Post) {idx pc : Nat} {lv : List (Option Value)} {st : List Value} {h : bkHS} {z : Option Nat} {k n : Nat} (hd : decode (mB M) pc = .ok (.invokestatic idx, 3))
    (hs : stpB G (CM G) M Post (.invokestatic idx) pc 3 lv st h z k n (bkV0 p e R s m args below meth c Q G M)) : bkV0 p e R s m args below meth c Q G M pc lv st h z k n := by
  unfold stpB at hs
  dsimp only at hs
  split at hs
  · rename_i M' hlk
    exact snd_call hB hE (Or.inl ⟨rfl, hs.1, hs.2.1⟩) hd hlk hs.2.2
  · rename_i b hlk
    intro H locs ls hH hS hL
    have hB0 := hB
    obtain ⟨hx, hb, hml, hown, hts, hBs, hF, ho, hR, -⟩ := hB
    have hml2 : c.maxLocals = ls.size := hml.trans hL.2.1.symm
    split at hs
    · obtain ⟨x, y, r, rfl, h1, h2, h3, hs⟩ := pII_spec hs
      have h9 : (r.map fun v => v.category).sum ≤ 8 := h1
      exact va_mmax hx hb hml2 hown (hts _ (bkLk_ok ho hlk)) (hts _ ga_maxS) (hts _ ga_mathI) (hts _ ga_maxC) (by omega) (by omega) (by omega) (by omega) hd (hs H locs ls hH hS hL)
    · obtain ⟨x, y, r, rfl, h1, h2, h3, hs⟩ := pII_spec hs
      have h9 : (r.map fun v => v.category).sum ≤ 8 := h1
      exact va_mmin hx hb hml2 hown (hts _ (bkLk_ok ho hlk)) (hts _ ga_minS) (hts _ ga_mathI) (hts _ ga_minC) (by omega) (by omega) (by omega) (by omega) hd (hs H locs ls hH hS hL)
    · obtain ⟨dp, cnt, r1, rfl, hs1⟩ := pII_spec hs
      clear hs
      obtain ⟨a, r2, rfl, hs2⟩ := pR_spec hs1
      clear hs1
      obtain ⟨sp, b, r, rfl, h1, h2, h3, h4, hs⟩ := pIR_spec hs2
      clear hs2
      rcases hs with ⟨n0, n1, f, g, g', e1, e2, e3, e4, eg, hs⟩ | ⟨n0, n1, f, g, g', e1, e2, e3, e4, eg, hs⟩ | ⟨-, n0, n1, f, g, g', e1, e2, e3, e4, eg, hs⟩
      · have e5 := bk_atI.mp (hH.1 b _ e1).1
        exact bk_copy (fun x => Value.int x) 0 hB0 hd hlk hL.2.1 h1 e5 rfl ((hF.1.2 0 _ rfl).1 n0 _) (fun h => by cases h) (bk_atI.mp (hH.1 a _ e2).1) rfl rfl (fun _ => rfl) (fun _ => rfl) h2 h3 h4 e3 e4 (hH.1 a _ e2).2 hS
          (fun H1 locs1 g1 g2 g3 g4 => hs H1 locs1 ls (hH.put e2 (bk_atI.mpr (g1.trans (congrArg some (arrV_ext _ _ (fun j hj => congrArg Value.int (eg j hj).symm))))) g2 g3) g4 hL)
      · have e5 := bk_atL.mp (hH.1 b _ e1).1
        exact bk_copy (fun x => Value.long x) 1 hB0 hd hlk hL.2.1 h1 e5 rfl ((hF.1.2 1 _ rfl).1 n0 _) (fun h => by cases h) (bk_atL.mp (hH.1 a _ e2).1) rfl rfl (fun _ => rfl) (fun _ => rfl) h2 h3 h4 e3 e4 (hH.1 a _ e2).2 hS
          (fun H1 locs1 g1 g2 g3 g4 => hs H1 locs1 ls (hH.put e2 (bk_atL.mpr (g1.trans (congrArg some (arrV_ext _ _ (fun j hj => congrArg Value.long (eg j hj).symm))))) g2 g3) g4 hL)
      · obtain ⟨⟨cs, c1, c2, c3, c4, c5⟩, hlt⟩ := hF.2.2.2.2.2.2.1 b n0 f e1
        have c6 : cs.slots = (arrV (gA G 0) n0 (fun j => Value.int (f j))).slots := by
          refine Array.ext_getElem? fun j => ?_
          by_cases hj : j < n0
          · rw [c5 j hj, arrV_read _ _ hj]
          · rw [Array.getElem?_eq_none (by omega), Array.getElem?_eq_none (by rw [arrV_size]; omega)]
        exact bk_copy (fun x => Value.int x) 0 hB0 hd hlk hL.2.1 h1 (by rw [hS.2.1 b (by omega) (by show ¬ gB G ≤ b; omega)]; exact c1) c6 c2 c3 (bk_atI.mp (hH.1 a _ e2).1) rfl rfl (fun _ => rfl) (fun _ => rfl) h2 h3 h4 e3 e4 (hH.1 a _ e2).2 hS
          (fun H1 locs1 g1 g2 g3 g4 => hs H1 locs1 ls (hH.put e2 (bk_atI.mpr (g1.trans (congrArg some (arrV_ext _ _ (fun j hj => congrArg Value.int (eg j hj).symm))))) g2 g3) g4 hL)
    · exact hs.elim
  · exact hs.elim
theorem snd_virtual {Post : bkPo} (hB : bkB p R s m args meth c G M) (hE : bkEnds p e R s m args below meth c Q G M Post) {idx pc : Nat} {lv : List (Option Value)} {st : List Value} {h : bkHS} {z : Option Nat} {k n : Nat} (hd : decode (mB M) pc = .ok (.invokevirtual idx, 3))
    (hs : stpB G (CM G) M Post (.invokevirtual idx) pc 3 lv st h z k n (bkV0 p e R s m args below meth c Q G M)) : bkV0 p e R s m args below meth c Q G M pc lv st h z k n := by
  unfold stpB at hs
  dsimp only at hs
  split at hs
  · rename_i M' hlk
    exact snd_call hB hE (Or.inr (Or.inl ⟨rfl, hs.2.1, hs.2.2.1, hs.2.2.2.1, hs.1⟩)) hd hlk hs.2.2.2.2
  · exact hs.elim
theorem snd_special {Post : bkPo} (hB : bkB p R s m args meth c G M) (hE : bkEnds p e R s m args below meth c Q G M Post) {idx pc : Nat} {lv : List (Option Value)} {st : List Value} {h : bkHS} {z : Option Nat} {k n : Nat} (hd : decode (mB M) pc = .ok (.invokespecial idx, 3))
    (hs : stpB G (CM G) M Post (.invokespecial idx) pc 3 lv st h z k n (bkV0 p e R s m args below meth c Q G M)) : bkV0 p e R s m args below meth c Q G M pc lv st h z k n := by
  unfold stpB at hs
  dsimp only at hs
  split at hs
  · rename_i M' hlk
    exact snd_call hB hE (Or.inr (Or.inr ⟨rfl, hs.2.1, hs.2.2.1, hs.1⟩)) hd hlk hs.2.2.2
  · rename_i b hlk
    intro H locs ls hH hS hL
    obtain ⟨hx, hb, hml, hown, hts, hBs, hF, ho, hR, -⟩ := hB
    obtain ⟨hb3, hs⟩ := hs
    subst hb3
    obtain ⟨x, r, rfl, h1, hs⟩ := pR_spec hs
    have h9 : (r.map fun v => v.category).sum ≤ 8 := h1
    refine W.objInit hx hb hown (hts _ (bkLk_ok ho hlk)) (hts _ ga_objI) (hts _ ga_objC) rfl (hL.2.1.trans hml.symm) rfl hd (by omega) (by show 2 * 0 + _ + 12 ≤ _; omega) ?_
    exact hs H locs ls hH hS hL
  · exact hs.elim
set_option maxHeartbeats 4000000 in
/-- every instruction -/
theorem bk_sndB {Post : bkPo} (hB : bkB p R s m args meth c G M) (hE : bkEnds p e R s m args below meth c Q G M Post) {pc : Nat} {lv : List (Option Value)} {st : List Value} {h : bkHS} {z : Option Nat} {k n : Nat}
    (hs : bkGo G (CM G) M Post (bkV0 p e R s m args below meth c Q G M) pc lv st h z k n) : bkV0 p e R s m args below meth c Q G M pc lv st h z k n := by
  obtain ⟨i, len, hd, hl, hs⟩ := hs
  cases i
  case getfield idx => cases (eq_of_beq hl : len = 3); exact snd_getfield hB hd hs
  case putfield idx => cases (eq_of_beq hl : len = 3); exact snd_putfield hB hd hs
  case getstatic idx => cases (eq_of_beq hl : len = 3); exact snd_getstatic hB hd hs
  case ldc idx => cases (eq_of_beq hl : len = 2); exact snd_ldc hB hd hs
  case ldc_w idx => cases (eq_of_beq hl : len = 3); exact snd_ldcw hB hd hs
  case ldc2_w idx => cases (eq_of_beq hl : len = 3); exact snd_ldc2 hB hd hs
  case iaload => cases (eq_of_beq hl : len = 1); exact snd_iaload hB hd hs
  case laload => cases (eq_of_beq hl : len = 1); exact snd_laload hB hd hs
  case caload => cases (eq_of_beq hl : len = 1); exact snd_caload hB hd hs
  case daload => cases (eq_of_beq hl : len = 1); exact snd_daload hB hd hs
  case aaload => cases (eq_of_beq hl : len = 1); exact snd_aaload hB hd hs
  case iastore => cases (eq_of_beq hl : len = 1); exact snd_iastore hB hd hs
  case lastore => cases (eq_of_beq hl : len = 1); exact snd_lastore hB hd hs
  case castore => cases (eq_of_beq hl : len = 1); exact snd_castore hB hd hs
  case dastore => cases (eq_of_beq hl : len = 1); exact snd_dastore hB hd hs
  case aastore => cases (eq_of_beq hl : len = 1); exact snd_aastore hB hd hs
  case arraylength => cases (eq_of_beq hl : len = 1); exact snd_arraylength hB hd hs
  case new idx => cases (eq_of_beq hl : len = 3); exact snd_new hB hE hd hs
  case newarray ty => cases (eq_of_beq hl : len = 2); exact snd_newarray hB hd hs
  case anewarray idx => cases (eq_of_beq hl : len = 3); exact snd_anewarray hB hd hs
  case invokestatic idx => cases (eq_of_beq hl : len = 3); exact snd_static hB hE hd hs
  case invokevirtual idx => cases (eq_of_beq hl : len = 3); exact snd_virtual hB hE hd hs
  case invokespecial idx => cases (eq_of_beq hl : len = 3); exact snd_special hB hE hd hs
  case return_ =>
    cases (eq_of_beq hl : len = 1)
    obtain ⟨rfl, h1, h2, h3, h4⟩ := hs
    intro H locs ls hH hS hL
    exact hE.1 _ none pc h z k n H locs ls hd h1 h2 h3 h4 hH hS
  case ireturn =>
    cases (eq_of_beq hl : len = 1)
    obtain ⟨x, r, rfl, h0, h1, h2, h3, h4⟩ := pI_spec hs
    subst h0
    intro H locs ls hH hS hL
    exact hE.1 _ (some (.int x)) pc h z k n H locs ls hd h1 h2 h3 h4 hH hS
  case lreturn =>
    cases (eq_of_beq hl : len = 1)
    obtain ⟨x, r, rfl, h0, h1, h2, h3, h4⟩ := pL_spec hs
    subst h0
    intro H locs ls hH hS hL
    exact hE.1 _ (some (.long x)) pc h z k n H locs ls hd h1 h2 h3 h4 hH hS
  case dreturn =>
    cases (eq_of_beq hl : len = 1)
    obtain ⟨x, r, rfl, h0, h1, h2, h3, h4⟩ := pD_spec hs
    subst h0
    intro H locs ls hH hS hL
    exact hE.1 _ (some (.double x)) pc h z k n H locs ls hd h1 h2 h3 h4 hH hS
  all_goals exact bk_sndA hB hd hl hs
end Snd
