/-! 11: the least predicate's own equation -/
section Mono
variable {G : bkG} {CC : bkM → List Value → bkHS → Option Nat → bkPo → Prop} {M : bkM} {Post : bkPo} {K K' : bkV}
theorem ldI_mono {lv : List (Option Value)} {i : Nat} {f g : Int32 → Prop} (hfg : ∀ x, f x → g x) (h : ldI lv i f) : ldI lv i g := by
  obtain ⟨x, h1, h2⟩ := ldI_spec h
  unfold ldI
  rw [h1]
  exact hfg _ h2
theorem ldL_mono {lv : List (Option Value)} {i : Nat} {f g : Int64 → Prop} (hfg : ∀ x, f x → g x) (h : ldL lv i f) : ldL lv i g := by
  obtain ⟨x, h1, h2⟩ := ldL_spec h
  unfold ldL
  rw [h1]
  exact hfg _ h2
theorem ldD_mono {lv : List (Option Value)} {i : Nat} {f g : UInt64 → Prop} (hfg : ∀ x, f x → g x) (h : ldD lv i f) : ldD lv i g := by
  obtain ⟨x, h1, h2⟩ := ldD_spec h
  unfold ldD
  rw [h1]
  exact hfg _ h2
theorem ldR_mono {lv : List (Option Value)} {i : Nat} {f g : Nat → Prop} (hfg : ∀ x, f x → g x) (h : ldR lv i f) : ldR lv i g := by
  obtain ⟨x, h1, h2⟩ := ldR_spec h
  unfold ldR
  rw [h1]
  exact hfg _ h2
theorem pI_mono {st : List Value} {f g : Int32 → List Value → Prop} (hfg : ∀ x r, f x r → g x r) (h : pI st f) : pI st g := by
  obtain ⟨x, r, rfl, h2⟩ := pI_spec h
  exact hfg _ _ h2
theorem pL_mono {st : List Value} {f g : Int64 → List Value → Prop} (hfg : ∀ x r, f x r → g x r) (h : pL st f) : pL st g := by
  obtain ⟨x, r, rfl, h2⟩ := pL_spec h
  exact hfg _ _ h2
theorem pD_mono {st : List Value} {f g : UInt64 → List Value → Prop} (hfg : ∀ x r, f x r → g x r) (h : pD st f) : pD st g := by
  obtain ⟨x, r, rfl, h2⟩ := pD_spec h
  exact hfg _ _ h2
theorem pR_mono {st : List Value} {f g : Nat → List Value → Prop} (hfg : ∀ x r, f x r → g x r) (h : pR st f) : pR st g := by
  obtain ⟨x, r, rfl, h2⟩ := pR_spec h
  exact hfg _ _ h2
theorem pV_mono {st : List Value} {f g : Value → List Value → Prop} (hfg : ∀ x r, f x r → g x r) (h : pV st f) : pV st g := by
  obtain ⟨x, r, rfl, h2⟩ := pV_spec h
  exact hfg _ _ h2
theorem pII_mono {st : List Value} {f g : Int32 → Int32 → List Value → Prop} (hfg : ∀ x y r, f x y r → g x y r) (h : pII st f) : pII st g := pI_mono (fun _ _ h => pI_mono (fun _ _ h => hfg _ _ _ h) h) h
theorem pLL_mono {st : List Value} {f g : Int64 → Int64 → List Value → Prop} (hfg : ∀ x y r, f x y r → g x y r) (h : pLL st f) : pLL st g := pL_mono (fun _ _ h => pL_mono (fun _ _ h => hfg _ _ _ h) h) h
theorem pDD_mono {st : List Value} {f g : UInt64 → UInt64 → List Value → Prop} (hfg : ∀ x y r, f x y r → g x y r) (h : pDD st f) : pDD st g := pD_mono (fun _ _ h => pD_mono (fun _ _ h => hfg _ _ _ h) h) h
theorem pIR_mono {st : List Value} {f g : Int32 → Nat → List Value → Prop} (hfg : ∀ x y r, f x y r → g x y r) (h : pIR st f) : pIR st g := pI_mono (fun _ _ h => pR_mono (fun _ _ h => hfg _ _ _ h) h) h
theorem bkJ_mono {pc : Nat} {off : Int} {f g : Nat → Prop} (hfg : ∀ t, f t → g t) (h : bkJ pc off f) : bkJ pc off g := ⟨h.1, hfg _ h.2⟩
set_option maxHeartbeats 4000000 in
theorem stpA_mono (hK : ∀ pc lv st h z k n, K pc lv st h z k n → K' pc lv st h z k n) {i : Instr} {pc len : Nat} {lv : List (Option Value)} {st : List Value} {h : bkHS} {z : Option Nat} {k n : Nat} (hs : stpA i pc len lv st h z k n K) : stpA i pc len lv st h z k n K' := by
  cases i
  case dconst d =>
    by_cases h0 : d = 0
    · subst h0
      have hs : K (pc + len) lv (.double FP.dconst0 :: st) h z k n := by simpa [stpA] using hs
      simpa [stpA] using hK _ _ _ _ _ _ _ hs
    · by_cases h1 : d = 1
      · subst h1
        have hs : K (pc + len) lv (.double FP.dconst1 :: st) h z k n := by simpa [stpA] using hs
        simpa [stpA] using hK _ _ _ _ _ _ _ hs
      · omega
  all_goals first
    | exact False.elim hs
    | exact hK _ _ _ _ _ _ _ hs
    | exact ldR_mono (fun _ h => hK _ _ _ _ _ _ _ h) hs
    | exact ldI_mono (fun _ h => hK _ _ _ _ _ _ _ h) hs
    | exact ldL_mono (fun _ h => hK _ _ _ _ _ _ _ h) hs
    | exact ldD_mono (fun _ h => hK _ _ _ _ _ _ _ h) hs
    | exact pI_mono (fun _ _ h => hK _ _ _ _ _ _ _ h) hs
    | exact pI_mono (fun _ _ h => ⟨h.1, hK _ _ _ _ _ _ _ h.2⟩) hs
    | exact pR_mono (fun _ _ h => ⟨h.1, hK _ _ _ _ _ _ _ h.2⟩) hs
    | exact pL_mono (fun _ _ h => hK _ _ _ _ _ _ _ h) hs
    | exact pL_mono (fun _ _ h => ⟨h.1, hK _ _ _ _ _ _ _ h.2⟩) hs
    | exact pD_mono (fun _ _ h => ⟨h.1, hK _ _ _ _ _ _ _ h.2⟩) hs
    | exact pII_mono (fun _ _ _ h => hK _ _ _ _ _ _ _ h) hs
    | exact pII_mono (fun _ _ _ h => ⟨h.1, hK _ _ _ _ _ _ _ h.2⟩) hs
    | exact pLL_mono (fun _ _ _ h => hK _ _ _ _ _ _ _ h) hs
    | exact pDD_mono (fun _ _ _ h => hK _ _ _ _ _ _ _ h) hs
    | exact pDD_mono (fun _ _ _ h => ⟨h.1, hK _ _ _ _ _ _ _ h.2⟩) hs
    | exact pV_mono (fun _ _ h => ⟨h.1, hK _ _ _ _ _ _ _ h.2⟩) hs
    | exact pV_mono (fun _ _ h => pV_mono (fun _ _ h => ⟨h.1, h.2.1, hK _ _ _ _ _ _ _ h.2.2⟩) h) hs
    | exact bkJ_mono (fun _ h => hK _ _ _ _ _ _ _ h) hs
    | exact pII_mono (fun _ _ _ h => bkJ_mono (fun _ h => ⟨fun q => hK _ _ _ _ _ _ _ (h.1 q), fun q => hK _ _ _ _ _ _ _ (h.2 q)⟩) h) hs
    | exact pI_mono (fun _ _ h => bkJ_mono (fun _ h => ⟨fun q => hK _ _ _ _ _ _ _ (h.1 q), fun q => hK _ _ _ _ _ _ _ (h.2 q)⟩) h) hs
    | exact pI_mono (fun _ _ h => ⟨h.1, bkJ_mono (fun _ h => hK _ _ _ _ _ _ _ h) h.2⟩) hs
theorem bkX_mono (hK : ∀ pc lv st h z k n, K pc lv st h z k n → K' pc lv st h z k n) {pc : Nat} {lv : List (Option Value)} {e : Nat} {h : bkHS} {k n : Nat} (hs : bkX M Post K pc lv e h k n) : bkX M Post K' pc lv e h k n := by
  unfold bkX at hs ⊢
  split at hs
  · exact hs
  · split at hs
    · intro q; exact hK _ _ _ _ _ _ _ (hs q)
    · exact hs
theorem bkK_mono (hK : ∀ pc lv st h z k n, K pc lv st h z k n → K' pc lv st h z k n) {pc : Nat} {lv : List (Option Value)} {rest : List Value} {k n : Nat} (r : bkRes) (h : bkHS) (z : Option Nat) (hs : bkK M Post K pc lv rest k n r h z) : bkK M Post K' pc lv rest k n r h z := by
  cases r with
  | inl v => exact hK _ _ _ _ _ _ _ hs
  | inr e => exact bkX_mono hK hs
theorem bkCall_mono (hC : ∀ M' av h z (P P' : bkPo), CC M' av h z P → (∀ r h z, P r h z → P' r h z) → CC M' av h z P') (hK : ∀ pc lv st h z k n, K pc lv st h z k n → K' pc lv st h z k n) {pc : Nat} {lv : List (Option Value)} {st : List Value} {h : bkHS} {z : Option Nat} {k n : Nat} {M' : bkM} (hs : bkCall CC M Post K pc lv st h z k n M') : bkCall CC M Post K' pc lv st h z k n M' := by
  obtain ⟨h1, h2, h3, h4, h5, h6, h7⟩ := hs
  exact ⟨h1, h2, h3, h4, h5, h6, hC _ _ _ _ _ _ h7 (fun r h z hh => bkK_mono hK r h z hh)⟩
set_option maxHeartbeats 4000000 in
theorem stpB_mono (hC : ∀ M' av h z (P P' : bkPo), CC M' av h z P → (∀ r h z, P r h z → P' r h z) → CC M' av h z P') (hK : ∀ pc lv st h z k n, K pc lv st h z k n → K' pc lv st h z k n) {i : Instr} {pc len : Nat} {lv : List (Option Value)} {st : List Value} {h : bkHS} {z : Option Nat} {k n : Nat} (hs : stpB G CC M Post i pc len lv st h z k n K) : stpB G CC M Post i pc len lv st h z k n K' := by
  have hgen : stpA i pc len lv st h z k n K → stpA i pc len lv st h z k n K' := stpA_mono hK
  cases i
  case getfield idx =>
    refine pR_mono (fun a r h => ?_) hs
    revert h
    split
    · exact fun h => ⟨h.1, hK _ _ _ _ _ _ _ h.2⟩
    · exact fun h => h
  case putfield idx =>
    refine pV_mono (fun v r h => pR_mono (fun a r h => ?_) h) hs
    revert h
    split
    · exact fun h => ⟨h.1, h.2.1, h.2.2.1, hK _ _ _ _ _ _ _ h.2.2.2⟩
    · exact fun h => h
  case getstatic idx =>
    unfold stpB at hs ⊢
    dsimp only at hs ⊢
    revert hs
    split
    · exact fun h => hK _ _ _ _ _ _ _ h
    · exact fun h => h
  case ldc idx =>
    unfold stpB at hs ⊢
    dsimp only at hs ⊢
    revert hs
    split
    · exact fun h => hK _ _ _ _ _ _ _ h
    · exact fun h => h
  case ldc_w idx =>
    unfold stpB at hs ⊢
    dsimp only at hs ⊢
    revert hs
    split
    · exact fun h => hK _ _ _ _ _ _ _ h
    · exact fun h => h
  case ldc2_w idx =>
    unfold stpB at hs ⊢
    dsimp only at hs ⊢
    revert hs
    split
    · exact fun h => hK _ _ _ _ _ _ _ h
    · exact fun h => h
  case iaload => exact pIR_mono (fun _ _ _ h => ⟨h.1, hK _ _ _ _ _ _ _ h.2⟩) hs
  case laload => exact pIR_mono (fun _ _ _ h => ⟨h.1, hK _ _ _ _ _ _ _ h.2⟩) hs
  case caload => exact pIR_mono (fun _ _ _ h => ⟨h.1, hK _ _ _ _ _ _ _ h.2⟩) hs
  case daload => exact pIR_mono (fun _ _ _ h => ⟨h.1, hK _ _ _ _ _ _ _ h.2⟩) hs
  case aaload => exact pIR_mono (fun _ _ _ h => ⟨h.1, hK _ _ _ _ _ _ _ h.2⟩) hs
  case iastore => exact pI_mono (fun _ _ h => pIR_mono (fun _ _ _ h => ⟨h.1, hK _ _ _ _ _ _ _ h.2⟩) h) hs
  case lastore => exact pL_mono (fun _ _ h => pIR_mono (fun _ _ _ h => ⟨h.1, hK _ _ _ _ _ _ _ h.2⟩) h) hs
  case castore => exact pI_mono (fun _ _ h => pIR_mono (fun _ _ _ h => ⟨h.1, hK _ _ _ _ _ _ _ h.2⟩) h) hs
  case dastore => exact pD_mono (fun _ _ h => pIR_mono (fun _ _ _ h => ⟨h.1, hK _ _ _ _ _ _ _ h.2⟩) h) hs
  case aastore => exact pR_mono (fun _ _ h => pIR_mono (fun _ _ _ h => ⟨h.1, h.2.1, hK _ _ _ _ _ _ _ h.2.2⟩) h) hs
  case arraylength =>
    refine pR_mono (fun a r h => ?_) hs
    revert h
    split
    · exact fun h => hK _ _ _ _ _ _ _ h
    · exact fun h => h
  case new idx =>
    unfold stpB at hs ⊢
    dsimp only at hs ⊢
    revert hs
    split
    · split
      · exact fun h => ⟨h.1, h.2.1, hK _ _ _ _ _ _ _ h.2.2⟩
      · exact fun h => h
    · exact fun h => h
    · exact fun h => h
  case newarray ty =>
    refine pI_mono (fun x r h => ?_) hs
    revert h
    split
    · refine fun h => ⟨h.1, h.2.1, h.2.2.1, h.2.2.2.1, ?_⟩
      have h9 := h.2.2.2.2
      revert h9
      split
      · exact fun h => hK _ _ _ _ _ _ _ h
      · exact fun h => hK _ _ _ _ _ _ _ h
      · exact fun h => hK _ _ _ _ _ _ _ h
      · exact fun h => hK _ _ _ _ _ _ _ h
      · exact fun h => h
    · exact fun h => h
  case anewarray idx =>
    refine pI_mono (fun x r h => ?_) hs
    revert h
    split
    · exact fun h => ⟨h.1, h.2.1, h.2.2.1, h.2.2.2.1, h.2.2.2.2.1, hK _ _ _ _ _ _ _ h.2.2.2.2.2⟩
    · exact fun h => h
  case return_ => exact hs
  case ireturn => exact hs
  case lreturn => exact hs
  case dreturn => exact hs
  case invokestatic idx =>
    unfold stpB at hs ⊢
    dsimp only at hs ⊢
    revert hs
    split
    · exact fun h => ⟨h.1, h.2.1, bkCall_mono hC hK h.2.2⟩
    · split
      · exact pII_mono (fun _ _ _ h => ⟨h.1, h.2.1, h.2.2.1, hK _ _ _ _ _ _ _ h.2.2.2⟩)
      · exact pII_mono (fun _ _ _ h => ⟨h.1, h.2.1, h.2.2.1, hK _ _ _ _ _ _ _ h.2.2.2⟩)
      · refine pII_mono (fun _ _ _ h => pR_mono (fun _ _ h => pIR_mono (fun _ _ _ h => ⟨h.1, h.2.1, h.2.2.1, h.2.2.2.1, ?_⟩) h) h)
        rcases h.2.2.2.2 with ⟨n0, n1, f, g, g', e1, e2, e3, e4, eg, e5⟩ | ⟨n0, n1, f, g, g', e1, e2, e3, e4, eg, e5⟩ | ⟨e0, n0, n1, f, g, g', e1, e2, e3, e4, eg, e5⟩
        · exact Or.inl ⟨n0, n1, f, g, g', e1, e2, e3, e4, eg, hK _ _ _ _ _ _ _ e5⟩
        · exact Or.inr (Or.inl ⟨n0, n1, f, g, g', e1, e2, e3, e4, eg, hK _ _ _ _ _ _ _ e5⟩)
        · exact Or.inr (Or.inr ⟨e0, n0, n1, f, g, g', e1, e2, e3, e4, eg, hK _ _ _ _ _ _ _ e5⟩)
      · exact fun h => h
    · exact fun h => h
  case invokevirtual idx =>
    unfold stpB at hs ⊢
    dsimp only at hs ⊢
    revert hs
    split
    · exact fun h => ⟨h.1, h.2.1, h.2.2.1, h.2.2.2.1, bkCall_mono hC hK h.2.2.2.2⟩
    · exact fun h => h
  case invokespecial idx =>
    unfold stpB at hs ⊢
    dsimp only at hs ⊢
    revert hs
    split
    · exact fun h => ⟨h.1, h.2.1, h.2.2.1, bkCall_mono hC hK h.2.2.2⟩
    · exact fun h => ⟨h.1, pR_mono (fun _ _ h => ⟨h.1, hK _ _ _ _ _ _ _ h.2⟩) h.2⟩
    · exact fun h => h
  all_goals exact hgen hs
end Mono
/-- the predicate of a method's body -/
abbrev wp (G : bkG) (M : bkM) (Post : bkPo) : bkV := bkWp G (CM G) M Post
theorem bkGo_mono {G : bkG} {M : bkM} {Post : bkPo} {K K' : bkV} (hK : ∀ pc lv st h z k n, K pc lv st h z k n → K' pc lv st h z k n) {pc : Nat} {lv : List (Option Value)} {st : List Value} {h : bkHS} {z : Option Nat} {k n : Nat} (hs : bkGo G (CM G) M Post K pc lv st h z k n) : bkGo G (CM G) M Post K' pc lv st h z k n := by
  obtain ⟨i, len, h1, h2, h3⟩ := hs
  have hC : ∀ M' av h z (P P' : bkPo), CM G M' av h z P → (∀ r h z, P r h z → P' r h z) → CM G M' av h z P' := fun _ _ _ _ _ _ h9 h8 => CM.mono h9 h8
  exact ⟨i, len, h1, h2, stpB_mono (G := G) (CC := CM G) (M := M) (Post := Post) (K := K) (K' := K') (i := i) (pc := pc) (len := len) (lv := lv) (st := st) (h := h) (z := z) (k := k) (n := n) hC hK h3⟩
theorem wp_of {G : bkG} {M : bkM} {Post : bkPo} {pc : Nat} {lv : List (Option Value)} {st : List Value} {h : bkHS} {z : Option Nat} {k n : Nat} (hs : bkGo G (CM G) M Post (wp G M Post) pc lv st h z k n) : wp G M Post pc lv st h z k n :=
  fun V hV => hV _ _ _ _ _ _ _ (bkGo_mono (fun _ _ _ _ _ _ _ h9 => h9 V hV) hs)
theorem wp_go {G : bkG} {M : bkM} {Post : bkPo} {pc : Nat} {lv : List (Option Value)} {st : List Value} {h : bkHS} {z : Option Nat} {k n : Nat} (hs : wp G M Post pc lv st h z k n) : bkGo G (CM G) M Post (wp G M Post) pc lv st h z k n :=
  hs _ (fun _ _ _ _ _ _ _ h9 => bkGo_mono (fun _ _ _ _ _ _ _ h8 => wp_of h8) h9)
/-- one instruction, by its decoded form -/
theorem wp_at {G : bkG} {M : bkM} {Post : bkPo} {pc : Nat} {i : Instr} {len : Nat} (hd : decode (mB M) pc = .ok (i, len)) (hl : lenOK i len = true) (lv : List (Option Value)) (st : List Value) (h : bkHS) (z : Option Nat) (k n : Nat) :
    wp G M Post pc lv st h z k n = stpB G (CM G) M Post i pc len lv st h z k n (wp G M Post) := by
  refine propext ⟨fun hs => ?_, fun hs => wp_of ⟨i, len, hd, hl, hs⟩⟩
  obtain ⟨i', len', h1, h2, h3⟩ := wp_go hs
  rw [hd] at h1
  cases h1
  exact h3
