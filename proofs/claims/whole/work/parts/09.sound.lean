/-! 09: new objects and arrays, copies, ends; all instructions together -/
section Snd
variable {p : Program} {e : Env} {R : Room} {s : State} {m : MethodId} {args : Array Value} {below : List Frame} {meth : Method} {c : Code} {Q : State → Prop} {G : bkG} {M : bkM}
theorem bkDf_len {ci : Nat} {C : String} {T : u_T} {N : Nat} (h : bkCl[ci]? = some (C, T, N)) : (bkDf ci).length = N ∧ ∀ j, j < N → defaultValue (bkTy ci j) = vp_V (bkDf ci) j := by
  unfold bkDf
  rw [h]
  refine ⟨by simp, fun j hj => ?_⟩
  unfold vp_V
  simp [List.getD_eq_getElem?_getD, hj]
theorem snd_new {Post : bkPo} (hB : bkB p R s m args meth c G M) (hE : bkEnds p e R s m args below meth c Q G M Post) {idx pc : Nat} {lv : List (Option Value)} {st : List Value} {h : bkHS} {z : Option Nat} {k n : Nat} (hd : decode (mB M) pc = .ok (.new idx, 3))
    (hs : stpB G (CM G) M Post (.new idx) pc 3 lv st h z k n (bkV0 p e R s m args below meth c Q G M)) : bkV0 p e R s m args below meth c Q G M pc lv st h z k n := by
  intro H locs ls hH hS hL
  have hB0 := hB
  obtain ⟨hx, hb, hml, hown, hts, hBs, hF, ho, hR, -⟩ := hB
  unfold stpB at hs
  dsimp only at hs
  split at hs
  · rename_i ci hlk
    split at hs
    · rename_i q
      obtain ⟨h1, h2, hs⟩ := hs
      obtain ⟨C, T, N, c1, c2, c3, c4⟩ := bkLk_ok ho hlk
      obtain ⟨d1, d2⟩ := bkDf_len c1
      rw [d1] at h2 hs
      have hq : H.size = q := hH.2 q rfl
      have hKn := hF.1.1 ci _ c1
      refine W.newcK hx hb hown (hts _ c2) (hts _ c3) (hts _ c4) rfl hd (by omega) (by omega) hKn.2.1 hq fun H1 kC hkC e1 z1 o1 => ?_
      have hat : va_at (gD G) bkCl (q, bkc (gA G) (.inl (ci, bkDf ci))) H1 := ⟨_, c1, (u_born (bkTy ci) hts (bk_cls_ga c1) hKn hkC e1 (bk_cls c1).2.1).to d2⟩
      exact hs H1 locs ls (hH.new (Nat.le_trans hBs hS.1) hat z1 o1) ⟨Nat.le_trans hS.1 (by omega), fun x g1 g2 => (o1 x (by have := hS.1; omega)).trans (hS.2.1 x g1 g2), hS.2.2⟩ hL
    · exact hs.elim
  · rename_i x ic hlk
    obtain ⟨h1, h2, h3, h4, h5, h6, h7⟩ := hs
    exact hE.2.2.1 idx x ic pc st h z k n H locs ls hd hlk h1 h2 h3 h4 h5 h6 h7 hH hS hL.2.1
  · exact hs.elim
theorem snd_newarray (hB : bkB p R s m args meth c G M) {ty : ArrayType} {pc : Nat} {lv : List (Option Value)} {st : List Value} {h : bkHS} {z : Option Nat} {k n : Nat} (hd : decode (mB M) pc = .ok (.newarray ty, 2)) {Post : bkPo}
    (hs : stpB G (CM G) M Post (.newarray ty) pc 2 lv st h z k n (bkV0 p e R s m args below meth c Q G M)) : bkV0 p e R s m args below meth c Q G M pc lv st h z k n := by
  intro H locs ls hH hS hL
  obtain ⟨hx, hb, hml, hown, hts, hBs, hF, ho, hR, -⟩ := hB
  obtain ⟨x, r, rfl, hs1⟩ := pI_spec hs
  clear hs
  split at hs1
  · rename_i q
    obtain ⟨h1, h2, h3, h4, hs⟩ := hs1
    have hq : H.size = q := hH.2 q rfl
    have hss := hS.1
    have fin : ∀ (H1 : Heap), H1.size = q + 1 → (∀ x, x < q → H1[x]? = H[x]?) → va_S (bkA G) s.heap H1 locs := fun H1 z1 o1 => ⟨by omega, fun x g1 g2 => (o1 x (by omega)).trans (hS.2.1 x g1 g2), hS.2.2⟩
    cases ty
    case int =>
      refine va_newaK (atype := .int) hx hb (hts _ ga_arrI) rfl hd rfl h1 rfl (by show _ * 4 ≤ _; omega) (by omega) (by omega) hq fun H1 cA e1 z1 o1 a1 a2 => ?_
      have hc : cA = gA G 0 := Option.some.inj (a2.symm.trans (hF.1.2 0 _ rfl).2)
      subst hc
      exact hs H1 locs ls (hH.new (by omega) (bk_atI.mpr e1) z1 o1) (fin H1 z1 o1) hL
    case long =>
      refine va_newaK (atype := .long) hx hb (hts _ ga_arrL) rfl hd rfl h1 rfl (by show _ * 8 ≤ _; omega) (by omega) (by omega) hq fun H1 cA e1 z1 o1 a1 a2 => ?_
      have hc : cA = gA G 1 := Option.some.inj (a2.symm.trans (hF.1.2 1 _ rfl).2)
      subst hc
      exact hs H1 locs ls (hH.new (by omega) (bk_atL.mpr e1) z1 o1) (fin H1 z1 o1) hL
    case char =>
      refine va_newaK (atype := .char) hx hb (hts _ ga_arrC) rfl hd rfl h1 rfl (by show _ * 2 ≤ _; omega) (by omega) (by omega) hq fun H1 cA e1 z1 o1 a1 a2 => ?_
      have hc : cA = gA G 2 := Option.some.inj (a2.symm.trans (hF.1.2 2 _ rfl).2)
      subst hc
      exact hs H1 locs ls (hH.new (by omega) (bk_atC.mpr e1) z1 o1) (fin H1 z1 o1) hL
    case double =>
      refine va_newaK (atype := .double) hx hb (hts _ ga_arrD) rfl hd rfl h1 rfl (by show _ * 8 ≤ _; omega) (by omega) (by omega) hq fun H1 cA e1 z1 o1 a1 a2 => ?_
      have hc : cA = gA G 3 := Option.some.inj (a2.symm.trans (hF.1.2 3 _ rfl).2)
      subst hc
      exact hs H1 locs ls (hH.new (by omega) (bk_atD.mpr e1) z1 o1) (fin H1 z1 o1) hL
    all_goals exact False.elim hs
  · exact hs1.elim
theorem snd_anewarray (hB : bkB p R s m args meth c G M) {idx : Nat} {pc : Nat} {lv : List (Option Value)} {st : List Value} {h : bkHS} {z : Option Nat} {k n : Nat} (hd : decode (mB M) pc = .ok (.anewarray idx, 3)) {Post : bkPo}
    (hs : stpB G (CM G) M Post (.anewarray idx) pc 3 lv st h z k n (bkV0 p e R s m args below meth c Q G M)) : bkV0 p e R s m args below meth c Q G M pc lv st h z k n := by
  intro H locs ls hH hS hL
  obtain ⟨hx, hb, hml, hown, hts, hBs, hF, ho, hR, -⟩ := hB
  obtain ⟨x, r, rfl, hs1⟩ := pI_spec hs
  clear hs
  split at hs1
  · rename_i q
    obtain ⟨hlk, h1, h2, h3, h4, hs⟩ := hs1
    have hq : H.size = q := hH.2 q rfl
    have hss := hS.1
    obtain ⟨C5, T5, N5, c5, c6, -⟩ := bkLk_ok ho hlk
    cases c5
    refine W.anew hx hb hown (hts _ c6) (va_AO.use (hF.2.2.2.2.1 _ ga_arrP)) rfl hd rfl h1 (by omega) (by omega) (by omega) fun cA kA comp f1 f2 f3 f4 => ?_
    generalize hH1 : H.push ({ cls := cA, slots := Array.replicate x.toNatClampNeg .null, vm := .none } : Cell) = H1
    have z1 : H1.size = q + 1 := by rw [← hH1, Array.size_push, hq]
    have e1 : H1[q]? = some (arrV cA x.toNatClampNeg (fun _ => .null)) := by rw [← hH1, ← hq, Array.getElem?_push_size, ← arrV_new]
    have o1 : ∀ y : Nat, y < q → H1[y]? = H[y]? := fun y hy => by rw [← hH1, Array.getElem?_push, if_neg (by omega)]
    have hc : cA = gA G 4 := by
      obtain ⟨_, _, _, _, _, a5⟩ := (hF.1.2 4 _ rfl).2
      exact Option.some.inj (f1.symm.trans a5)
    subst hc
    rw [hq]
    exact hs H1 locs ls (hH.new (by omega) (bk_atQ.mpr e1) z1 o1) ⟨by omega, fun x g1 g2 => (o1 x (by omega)).trans (hS.2.1 x g1 g2), hS.2.2⟩ hL
  · exact hs1.elim
theorem bk_copy {α : Type} (mk : α → Value) (ti : Nat) {ty : FieldType} (hB : bkB p R s m args meth c G M) {idx pc : Nat} {ls : Array Slot} {r : List Value} {k n : Nat} {H : Heap} {locs : List Loc} (hd : decode (mB M) pc = .ok (.invokestatic idx, 3)) (hlk : bkLk (mO M) idx = some (kB 2))
    (hls : ls.size = mL M) (hcat : cats r ≤ 8) {a b : Nat} {n0 n1 : Nat} {f g : Nat → α} {cs : Cell} {c0 : ClassId} (hcs : H[b]? = some cs) (hsl : cs.slots = (arrV c0 n0 (fun j => mk (f j))).slots) (hsa : s.isArrayOf cs ty) (hsv : cs.vm ≠ .unknown)
    (hcd : H[a]? = some (arrV (gA G ti) n1 (fun j => mk (g j)))) (hty : (bkTys (gA G))[ti]? = some (gA G ti, ty)) (hprim : refKind ty = false) (hfit : ∀ x, fits ty (mk x) = true) (htk : ∀ x, (mk x).isRef = false) {sp dp cnt : Int32} (h1 : ¬ sp < 0) (h2 : ¬ dp < 0) (h3 : ¬ cnt < 0) (h4 : sp.toNatClampNeg + cnt.toNatClampNeg ≤ n0) (h5 : dp.toNatClampNeg + cnt.toNatClampNeg ≤ n1) (hA : gB G ≤ a) (hS : va_S (bkA G) s.heap H locs)
    (kk : ∀ (H1 : Heap) (locs1 : List Loc), H1[a]? = some (arrV (gA G ti) n1 (fun j => mk (va_cpy f g sp.toNatClampNeg dp.toNatClampNeg cnt.toNatClampNeg j))) → H1.size = H.size → (∀ q, q ≠ a → H1[q]? = H[q]?) → va_S (bkA G) s.heap H1 locs1 → W p (gl G) e R s m args below meth c H1 locs1 k n Q (F0 m (pc + 3) ls r)) :
    W p (gl G) e R s m args below meth c H locs k n Q (F0 m pc ls (.int cnt :: .int dp :: .ref a :: .int sp :: .ref b :: r)) := by
  obtain ⟨hx, hb, hml, hown, hts, hBs, hF, ho, hR, -⟩ := hB
  have nn : ∀ z : Int32, ¬ z < 0 → z.toInt = (z.toNatClampNeg : Int) := by
    intro z hz
    have hz0 : (0 : Int) ≤ z.toInt := by
      have := Int32.not_lt.mp hz
      simpa using Int32.le_iff_toInt_le.mp this
    show z.toInt = ((z.toInt.toNat : Nat) : Int)
    omega
  intro T hT X
  obtain ⟨hsn, k0, hk0, cm0, hkk0⟩ := hsa
  obtain ⟨-, k1, hk1, cm1, hkk1⟩ := (hF.1.2 ti _ hty).1 n1 (fun j => mk (g j))
  have hsz0 : cs.slots.size = n0 := by rw [hsl, arrV_size]
  obtain ⟨vm', X', step⟩ := X.arraycopy hx hown (hts _ (bkLk_ok ho hlk)) (hts _ ga_acN) (hts _ ga_acS) (hts _ ga_sysI) (src := b) (dst := a) (cs := cs) (cd := arrV (gA G ti) n1 (fun j => mk (g j))) (srcPos := sp) (destPos := dp) (n := cnt) (by rw [hT]; exact hcs) (by rw [hT]; exact hcd)
    hsn (fun _ h => by cases h) hsv (fun h => by cases h) hk0 hk1 hkk0 hkk1 (by simp [hprim]) h1 h2 h3
    (by rw [nn sp h1, nn cnt h3, hsz0]; omega)
    (by rw [nn dp h2, nn cnt h3, arrV_size]; omega)
    (fun vm₁ _ i hi => by
      have e : cs.slots.getD (sp.toNatClampNeg + i) .null = mk (f (sp.toNatClampNeg + i)) := by
        rw [hsl, Array.getD_eq_getD_getElem?, arrV_read _ _ (by omega)]
        rfl
      refine ⟨?_, ?_⟩
      · rw [e]
        exact hfit _
      · rw [e]
        have h9 := htk (f (sp.toNatClampNeg + i))
        cases hm : mk (f (sp.toNatClampNeg + i)) <;> first
          | exact trivial
          | (rw [hm] at h9; cases h9))
    (g := F0 m pc ls (.int cnt :: .int dp :: .ref a :: .int sp :: .ref b :: r)) rfl (by rw [hml]; exact hls) (rest := r) rfl (by rw [hb]; exact hd) (by omega) (by
      have h9 : (r.map fun v => v.category).sum ≤ 8 := hcat
      have h8 : nativeFrameWords "java/lang/System" "arraycopy" 5 + 11 ≤ 300 := by decide +kernel
      show 2 * 0 + _ + _ ≤ _
      omega)
  have e1 : copied cs (arrV (gA G ti) n1 (fun j => mk (g j))) sp dp cnt = arrV (gA G ti) n1 (fun j => mk (va_cpy f g sp.toNatClampNeg dp.toNatClampNeg cnt.toNatClampNeg j)) := by
    have e2 : cs.stretch sp.toNatClampNeg cnt.toNatClampNeg = (arrV c0 n0 (fun j => mk (f j))).stretch sp.toNatClampNeg cnt.toNatClampNeg := by
      unfold Cell.stretch
      rw [hsl]
    show (arrV (gA G ti) n1 (fun j => mk (g j))).storeRun dp.toNatClampNeg (cs.stretch sp.toNatClampNeg cnt.toNatClampNeg) = _
    rw [e2]
    exact va_copied mk c0 (gA G ti) f g h4
  rw [e1] at X' step
  have hl : a < H.size := (Array.getElem?_eq_some_iff.mp hcd).1
  generalize hcell : arrV (gA G ti) n1 (fun j => mk (va_cpy f g sp.toNatClampNeg dp.toNatClampNeg cnt.toNatClampNeg j)) = cell at X' step kk
  have hheap : ((T.setVm vm').setCell a cell).heap = H.setIfInBounds a cell := by rw [← hT]; rfl
  have oq : ∀ q : Nat, q ≠ a → (H.setIfInBounds a cell)[q]? = H[q]? := fun q hq => by simp [Array.getElem?_setIfInBounds, Ne.symm hq]
  obtain ⟨t, a1, b1⟩ := kk _ _ (show (H.setIfInBounds a _)[a]? = some _ by simp [Array.getElem?_setIfInBounds, hl]) (by simp) oq ⟨by simp; exact hS.1, fun q g1 g2 => by
      rw [oq q (fun e => g2 (by rw [e]; exact hA))]
      exact hS.2.1 q g1 g2, fun q hq => by
      rcases List.mem_append.mp hq with h | h
      · exact hS.2.2 q h
      · obtain ⟨z, -, hz⟩ := List.mem_map.mp h
        rw [← hz]
        exact hA⟩ _ hheap X'
  exact ⟨t, step t a1, b1⟩
end Snd
