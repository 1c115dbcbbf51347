/-! 30: the cloths of a set in their places -/
def bef (A : PA) (x y : Nat) : Prop := pLI A y 3 < pLI A x 3 ∨ (pLI A x 3 = pLI A y 3 ∧ x < y)
theorem i_le_lt {a b : Int32} (h : b ≤ a) : b < a ∨ a = b := by grind
theorem i_le_tr {a b c : Int32} (h : a ≤ b) (h' : b ≤ c) : a ≤ c := by grind
theorem bef_le {A : PA} {x y : Nat} (h : bef A x y) : pLI A y 3 ≤ pLI A x 3 := by
  rcases h with h | h
  · exact Int32.le_of_lt h
  · rw [h.1]; exact Int32.le_refl _
/-- areas, by places and by books -/
def areaM (le br : Nat → Int32) : Nat → Int64
  | 0 => 0
  | k + 1 => areaM le br k + (le k).toInt64 * (br k).toInt64
def arB (A : PA) (m : Nat) : Nat → Int64
  | 0 => 0
  | k + 1 => arB A m k + (if m.testBit k then (pLI A k 3).toInt64 * (pBI A k 3).toInt64 else 0)
theorem areaM_congr {le br le' br' : Nat → Int32} : ∀ n, (∀ j, j < n → le j = le' j ∧ br j = br' j) → areaM le br n = areaM le' br' n := by
  intro n
  induction n with
  | zero => intro _; rfl
  | succ n ih =>
    intro h
    have := h n (by omega)
    rw [areaM, areaM, ih fun j hj => h j (by omega), this.1, this.2]
theorem areaM_ins (le br : Nat → Int32) (p : Nat) (l w : Int32) : ∀ d, areaM (insM le p l) (insM br p w) (p + d + 1) = areaM le br (p + d) + l.toInt64 * w.toInt64 := by
  intro d
  induction d with
  | zero =>
    rw [Nat.add_zero, areaM]
    rw [areaM_congr (le := insM le p l) (br := insM br p w) (le' := le) (br' := br) p fun j hj => ⟨if_pos hj, if_pos hj⟩]
    have e : ∀ (f : Nat → Int32) (x : Int32), insM f p x p = x := fun f x => by unfold insM; rw [if_neg (by omega), if_pos rfl]
    rw [e, e]
    rfl
  | succ d ih =>
    rw [show p + (d + 1) + 1 = (p + d + 1) + 1 by omega, areaM, ih, show p + (d + 1) = (p + d) + 1 by omega, areaM]
    have e : ∀ (f : Nat → Int32) (x : Int32), insM f p x (p + d + 1) = f (p + d) := fun f x => by unfold insM; rw [if_neg (by omega), if_neg (by omega), Nat.add_sub_cancel]
    rw [e, e]
    grind
def Laid (A : PA) (m k : Nat) (S : CA) (P : Nat → Nat) : Prop :=
  S.ct ≤ k ∧ (∀ j, j < S.ct → P j < k ∧ m.testBit (P j) = true ∧ S.bo j = nI (P j) ∧ S.le j = pLI A (P j) 3 ∧ S.br j = pBI A (P j) 3) ∧ (∀ b, b < k → m.testBit b = true → ∃ j, j < S.ct ∧ P j = b) ∧ (∀ i j, i < j → j < S.ct → bef A (P i) (P j)) ∧ areaM S.le S.br S.ct = arB A m k
def insP (P : Nat → Nat) (p b : Nat) : Nat → Nat := fun j => if j < p then P j else if j = p then b else P (j - 1)
theorem laid_step {A : PA} {m k : Nat} {S S' : CA} {P : Nat → Nat} {p : Nat} (hL : Laid A m k S P) (hm : m.testBit k = true) (hp : p ≤ S.ct) (h1 : ∀ j, p ≤ j → j < S.ct → S.le j < pLI A k 3) (h2 : 0 < p → ¬ S.le (p - 1) < pLI A k 3) (hc : S'.ct = S.ct + 1)
    (hf : ∀ j, j ≤ S.ct → S'.bo j = insM S.bo p (nI k) j) (hg : ∀ j, j ≤ S.ct → S'.le j = insM S.le p (pLI A k 3) j) (hu : ∀ j, j ≤ S.ct → S'.br j = insM S.br p (pBI A k 3) j) : Laid A m (k + 1) S' (insP P p k) := by
  obtain ⟨l0, l1, l2, l3, l4⟩ := hL
  have key : ∀ i, i < p → bef A (P i) k := by
    intro i hi
    have a1 := h2 (by omega)
    rw [(l1 (p - 1) (by omega)).2.2.2.1] at a1
    have a2 : pLI A k 3 ≤ pLI A (P i) 3 := by
      by_cases q : i = p - 1
      · rw [q]; exact Int32.not_lt.mp a1
      · exact i_le_tr (Int32.not_lt.mp a1) (bef_le (l3 i (p - 1) (by omega) (by omega)))
    rcases i_le_lt a2 with q | q
    · exact Or.inl q
    · exact Or.inr ⟨q, (l1 i (by omega)).1⟩
  refine ⟨by omega, fun j hj => ?_, fun b hb ht => ?_, fun i j hij hj => ?_, ?_⟩
  · rw [hf j (by omega), hg j (by omega), hu j (by omega)]
    unfold insM insP
    by_cases q : j < p
    · rw [if_pos q, if_pos q, if_pos q, if_pos q]
      have := l1 j (by omega)
      exact ⟨by omega, this.2⟩
    · rw [if_neg q, if_neg q, if_neg q, if_neg q]
      by_cases q' : j = p
      · rw [if_pos q', if_pos q', if_pos q', if_pos q']
        exact ⟨by omega, hm, rfl, rfl, rfl⟩
      · rw [if_neg q', if_neg q', if_neg q', if_neg q']
        have := l1 (j - 1) (by omega)
        exact ⟨by omega, this.2⟩
  · unfold insP
    by_cases q : b = k
    · exact ⟨p, by omega, by rw [if_neg (by omega), if_pos rfl, q]⟩
    · obtain ⟨j, hj, e⟩ := l2 b (by omega) ht
      by_cases q' : j < p
      · exact ⟨j, by omega, by rw [if_pos q']; exact e⟩
      · exact ⟨j + 1, by omega, by rw [if_neg (by omega), if_neg (by omega), Nat.add_sub_cancel]; exact e⟩
  · unfold insP
    by_cases q : j < p
    · rw [if_pos q, if_pos (by omega)]
      exact l3 i j hij (by omega)
    · rw [if_neg q]
      by_cases q' : j = p
      · rw [if_pos q', if_pos (show i < p by omega)]
        exact key i (by omega)
      · rw [if_neg q']
        by_cases r : i < p
        · rw [if_pos r]; exact l3 i (j - 1) (by omega) (by omega)
        · rw [if_neg r]
          by_cases r' : i = p
          · rw [if_pos r']
            have a := h1 (j - 1) (by omega) (by omega)
            rw [(l1 (j - 1) (by omega)).2.2.2.1] at a
            exact Or.inl a
          · rw [if_neg r']; exact l3 (i - 1) (j - 1) (by omega) (by omega)
  · rw [hc, areaM_congr (le' := insM S.le p (pLI A k 3)) (br' := insM S.br p (pBI A k 3)) (S.ct + 1) fun j hj => ⟨hg j (by omega), hu j (by omega)⟩, arB, if_pos hm, ← l4]
    have := areaM_ins S.le S.br p (pLI A k 3) (pBI A k 3) (S.ct - p)
    rwa [show p + (S.ct - p) = S.ct by omega] at this
theorem laid_skip {A : PA} {m k : Nat} {S : CA} {P : Nat → Nat} (hL : Laid A m k S P) (hm : m.testBit k = false) : Laid A m (k + 1) S P := by
  obtain ⟨l0, l1, l2, l3, l4⟩ := hL
  refine ⟨by omega, fun j hj => ?_, fun b hb ht => ?_, l3, ?_⟩
  · have := l1 j hj
    exact ⟨by omega, this.2⟩
  · by_cases q : b = k
    · subst q; rw [hm] at ht; exact absurd ht Bool.false_ne_true
    · exact l2 b (by omega) ht
  · rw [arB, if_neg (by rw [hm]; decide), l4]; grind
theorem c_lay {G : bkG} {h : bkHS} {C P m : Nat} {A : PA} {S : CA} (hI : IsPlan h P A) (hC : IsCut h C S) (hd : C + 8 ≤ P ∨ P + 13 ≤ C) (hn : A.nb ≤ 10) (hm : m < 1024) {Post : bkPo}
    (hP : ∀ h' S' Q, IsCut h' C S' → Laid A m A.nb S' Q → S'.ro = A.se 4 → Same h h' C 8 → Post (.inl none) h' none) : CM G gX1_lay [.ref C, .ref P, .int (nI m)] h none Post := by
  have v4 : vp_in (4 : Int32) 5 := vp_nI (k := 4) (by omega) (by omega)
  obtain ⟨bo, le, br, so, bl, bs, ll, ro, ct, fs, fl⟩ := S
  obtain ⟨i0, i1, i2, i3, i4, i5, i6, i7⟩ := hC
  dsimp only [CA.bo, CA.le, CA.br, CA.so, CA.bl, CA.bs, CA.ll, CA.ro, CA.ct, CA.fs, CA.fl] at i0 i1 i2 i3 i4 i5 i6 i7
  refine meth (lv := [some (.ref C), some (.ref P), some (.int (nI m)), none]) ok_gX1_lay (by decide) rfl (Nat.le_of_ble_eq_true rfl) rfl ?_
  simp only [r_X1_lay_0, r_X1_lay_1, r_X1_lay_2, r_X1_lay_5, r_X1_lay_6, r_X1_lay_7, r_X1_lay_10, r_X1_lay_11, r_X1_lay_12, r_X1_lay_15, r_X1_lay_16, r_X1_lay_18, r_X1_lay_19, r_X1_lay_22, r_X1_lay_25, r_X1_lay_26, r_X1_lay_27, r_X1_lay_28, r_X1_lay_29, r_X1_lay_30, r_X1_lay_33, r_X1_lay_34, r_X1_lay_35, r_X1_lay_36, r_X1_lay_37, r_X1_lay_38, r_X1_lay_41, r_X1_lay_42, r_X1_lay_43, r_X1_lay_44, r_X1_lay_47, r_X1_lay_50, r_X1_lay_53, r_X1_lay_56, fGet_0, fGet_1, fGet_2, fGet_3, fGet_4, fGet_5, fGet_6, fGet_7, fGet_8, fGet_9, fGet_10, fGet_11, fGet_12, fGet_13, fGet_14, fGet_15, fGet_16, fGet_17, fGet_18, fOk_0, fOk_1, fOk_2, fOk_3, fOk_4, fOk_5, fOk_6, fOk_7, fOk_8, fOk_9, fOk_10, fOk_11, fOk_12, fOk_13, fOk_14, fOk_15, fOk_16, fOk_17, fOk_18, fSet_0, fSet_1, fSet_2, fSet_3, fSet_4, fSet_5, fSet_6, fSet_7, fSet_8, fSet_9, fSet_10, fSet_11, fSet_12, fSet_13, fSet_14, fSet_15, fSet_16, fSet_17, fSet_18, bkIs_e, rIw_o, rL_o, rC_o, rD_o, rQ_o, bkIn_o, bkEl_o, bkUp_o, cats_n, cats_i, cats_r, cats_l, cats_d, kl_i, kl_r, kl_n, kl_l, kl_d, rI_w, ok_b0, ok_b1, ile_0_1, ile_1_0, true_or, or_true, bkK_v, bkK_0, wr_q, Nat.add_eq_left, Nat.left_eq_add, Nat.add_left_cancel_iff, Nat.reduceEqDiff, reduceIte, Nat.reduceEqDiff, nz_1, nz_2, nz_3, nz_4, nz_5, nz_6, nz_7, nz_8, nz_9, nz_10, nz_11, nz_12, true_and, and_true, Nat.reduceAdd, Nat.zero_add, Nat.add_zero, Nat.le_refl, Nat.reduceLeDiff, Nat.zero_le, not_true_eq_false, not_false_eq_true, false_implies, true_implies, implies_true, hI.1, i0, rI_o hI.2.2.1, v4, bkK_x (M := gX1_lay) rfl, show mC gX1_lay = 0 from rfl, show mS gX1_lay = 0 from rfl]
  have loop : ∀ d k h' S' Q, k + d = A.nb → IsCut h' C S' → Laid A m k S' Q → S'.ro = A.se 4 → Same h h' C 8 → wp G gX1_lay Post 17 [some (.ref C), some (.ref P), some (.int (nI m)), some (.int (nI k))] [] h' none 0 0 := by
    intro d
    induction d with
    | zero =>
      intro k h' S' Q hk I L r s
      have hk : k = A.nb := by omega
      subst hk
      have I2 := hI.far s (by omega)
      rw [r_X1_lay_17]
      simp only [r_X1_lay_0, r_X1_lay_1, r_X1_lay_2, r_X1_lay_5, r_X1_lay_6, r_X1_lay_7, r_X1_lay_10, r_X1_lay_11, r_X1_lay_12, r_X1_lay_15, r_X1_lay_16, r_X1_lay_18, r_X1_lay_19, r_X1_lay_22, r_X1_lay_26, r_X1_lay_27, r_X1_lay_28, r_X1_lay_29, r_X1_lay_30, r_X1_lay_33, r_X1_lay_34, r_X1_lay_35, r_X1_lay_36, r_X1_lay_37, r_X1_lay_38, r_X1_lay_41, r_X1_lay_42, r_X1_lay_43, r_X1_lay_44, r_X1_lay_47, r_X1_lay_50, r_X1_lay_53, r_X1_lay_56, fGet_0, fGet_1, fGet_2, fGet_3, fGet_4, fGet_5, fGet_6, fGet_7, fGet_8, fGet_9, fGet_10, fGet_11, fGet_12, fGet_13, fGet_14, fGet_15, fGet_16, fGet_17, fGet_18, fOk_0, fOk_1, fOk_2, fOk_3, fOk_4, fOk_5, fOk_6, fOk_7, fOk_8, fOk_9, fOk_10, fOk_11, fOk_12, fOk_13, fOk_14, fOk_15, fOk_16, fOk_17, fOk_18, fSet_0, fSet_1, fSet_2, fSet_3, fSet_4, fSet_5, fSet_6, fSet_7, fSet_8, fSet_9, fSet_10, fSet_11, fSet_12, fSet_13, fSet_14, fSet_15, fSet_16, fSet_17, fSet_18, bkIs_e, rIw_o, rL_o, rC_o, rD_o, rQ_o, bkIn_o, bkEl_o, bkUp_o, cats_n, cats_i, cats_r, cats_l, cats_d, kl_i, kl_r, kl_n, kl_l, kl_d, rI_w, ok_b0, ok_b1, ile_0_1, ile_1_0, true_or, or_true, bkK_v, bkK_0, wr_q, Nat.add_eq_left, Nat.left_eq_add, Nat.add_left_cancel_iff, Nat.reduceEqDiff, reduceIte, Nat.reduceEqDiff, nz_1, nz_2, nz_3, nz_4, nz_5, nz_6, nz_7, nz_8, nz_9, nz_10, nz_11, nz_12, true_and, and_true, Nat.reduceAdd, Nat.zero_add, Nat.add_zero, Nat.le_refl, Nat.reduceLeDiff, Nat.zero_le, not_true_eq_false, not_false_eq_true, false_implies, true_implies, implies_true, I2.1, mI_le (show A.nb < 2147483648 by omega) (show A.nb < 2147483648 by omega), bkK_x (M := gX1_lay) rfl, show mC gX1_lay = 0 from rfl, show mS gX1_lay = 0 from rfl]
      exact hP _ _ _ I L r s
    | succ d ih =>
      intro k h' S' Q hk I L r s
      have I2 := hI.far s (by omega)
      rw [r_X1_lay_17]
      simp only [r_X1_lay_0, r_X1_lay_1, r_X1_lay_2, r_X1_lay_5, r_X1_lay_6, r_X1_lay_7, r_X1_lay_10, r_X1_lay_11, r_X1_lay_12, r_X1_lay_15, r_X1_lay_16, r_X1_lay_18, r_X1_lay_19, r_X1_lay_22, r_X1_lay_25, r_X1_lay_26, r_X1_lay_27, r_X1_lay_28, r_X1_lay_29, r_X1_lay_30, r_X1_lay_33, r_X1_lay_34, r_X1_lay_35, r_X1_lay_36, r_X1_lay_37, r_X1_lay_38, r_X1_lay_41, r_X1_lay_42, r_X1_lay_43, r_X1_lay_44, r_X1_lay_47, r_X1_lay_50, r_X1_lay_53, r_X1_lay_56, fGet_0, fGet_1, fGet_2, fGet_3, fGet_4, fGet_5, fGet_6, fGet_7, fGet_8, fGet_9, fGet_10, fGet_11, fGet_12, fGet_13, fGet_14, fGet_15, fGet_16, fGet_17, fGet_18, fOk_0, fOk_1, fOk_2, fOk_3, fOk_4, fOk_5, fOk_6, fOk_7, fOk_8, fOk_9, fOk_10, fOk_11, fOk_12, fOk_13, fOk_14, fOk_15, fOk_16, fOk_17, fOk_18, fSet_0, fSet_1, fSet_2, fSet_3, fSet_4, fSet_5, fSet_6, fSet_7, fSet_8, fSet_9, fSet_10, fSet_11, fSet_12, fSet_13, fSet_14, fSet_15, fSet_16, fSet_17, fSet_18, bkIs_e, rIw_o, rL_o, rC_o, rD_o, rQ_o, bkIn_o, bkEl_o, bkUp_o, cats_n, cats_i, cats_r, cats_l, cats_d, kl_i, kl_r, kl_n, kl_l, kl_d, rI_w, ok_b0, ok_b1, ile_0_1, ile_1_0, true_or, or_true, bkK_v, bkK_0, wr_q, Nat.add_eq_left, Nat.left_eq_add, Nat.add_left_cancel_iff, Nat.reduceEqDiff, reduceIte, Nat.reduceEqDiff, nz_1, nz_2, nz_3, nz_4, nz_5, nz_6, nz_7, nz_8, nz_9, nz_10, nz_11, nz_12, true_and, and_true, Nat.reduceAdd, Nat.zero_add, Nat.add_zero, Nat.le_refl, Nat.reduceLeDiff, Nat.zero_le, not_true_eq_false, not_false_eq_true, false_implies, true_implies, implies_true, I2.1, I.1, mI_le (show A.nb < 2147483648 by omega) (show k < 2147483648 by omega), show ¬ A.nb ≤ k by omega, bitT hm (show k < 10 by omega), mI_succ, bkK_x (M := gX1_lay) rfl, show mC gX1_lay = 0 from rfl, show mS gX1_lay = 0 from rfl]
      by_cases q : m.testBit k = true
      · rw [if_pos q]
        simp only [r_X1_lay_0, r_X1_lay_1, r_X1_lay_2, r_X1_lay_5, r_X1_lay_6, r_X1_lay_7, r_X1_lay_10, r_X1_lay_11, r_X1_lay_12, r_X1_lay_15, r_X1_lay_16, r_X1_lay_18, r_X1_lay_19, r_X1_lay_22, r_X1_lay_25, r_X1_lay_26, r_X1_lay_27, r_X1_lay_28, r_X1_lay_29, r_X1_lay_30, r_X1_lay_33, r_X1_lay_34, r_X1_lay_35, r_X1_lay_36, r_X1_lay_37, r_X1_lay_38, r_X1_lay_41, r_X1_lay_42, r_X1_lay_43, r_X1_lay_44, r_X1_lay_47, r_X1_lay_50, r_X1_lay_53, r_X1_lay_56, fGet_0, fGet_1, fGet_2, fGet_3, fGet_4, fGet_5, fGet_6, fGet_7, fGet_8, fGet_9, fGet_10, fGet_11, fGet_12, fGet_13, fGet_14, fGet_15, fGet_16, fGet_17, fGet_18, fOk_0, fOk_1, fOk_2, fOk_3, fOk_4, fOk_5, fOk_6, fOk_7, fOk_8, fOk_9, fOk_10, fOk_11, fOk_12, fOk_13, fOk_14, fOk_15, fOk_16, fOk_17, fOk_18, fSet_0, fSet_1, fSet_2, fSet_3, fSet_4, fSet_5, fSet_6, fSet_7, fSet_8, fSet_9, fSet_10, fSet_11, fSet_12, fSet_13, fSet_14, fSet_15, fSet_16, fSet_17, fSet_18, bkIs_e, rIw_o, rL_o, rC_o, rD_o, rQ_o, bkIn_o, bkEl_o, bkUp_o, cats_n, cats_i, cats_r, cats_l, cats_d, kl_i, kl_r, kl_n, kl_l, kl_d, rI_w, ok_b0, ok_b1, ile_0_1, ile_1_0, true_or, or_true, bkK_v, bkK_0, wr_q, Nat.add_eq_left, Nat.left_eq_add, Nat.add_left_cancel_iff, Nat.reduceEqDiff, reduceIte, Nat.reduceEqDiff, nz_1, nz_2, nz_3, nz_4, nz_5, nz_6, nz_7, nz_8, nz_9, nz_10, nz_11, nz_12, true_and, and_true, Nat.reduceAdd, Nat.zero_add, Nat.add_zero, Nat.le_refl, Nat.reduceLeDiff, Nat.zero_le, not_true_eq_false, not_false_eq_true, false_implies, true_implies, implies_true, I2.1, I.1, bkK_x (M := gX1_lay) rfl, show mC gX1_lay = 0 from rfl, show mS gX1_lay = 0 from rfl]
        refine c_pieceLength (p := 3) I2 (by omega) ?_
        simp only [r_X1_lay_0, r_X1_lay_1, r_X1_lay_2, r_X1_lay_5, r_X1_lay_6, r_X1_lay_7, r_X1_lay_10, r_X1_lay_11, r_X1_lay_12, r_X1_lay_15, r_X1_lay_16, r_X1_lay_18, r_X1_lay_19, r_X1_lay_22, r_X1_lay_25, r_X1_lay_26, r_X1_lay_27, r_X1_lay_28, r_X1_lay_29, r_X1_lay_30, r_X1_lay_33, r_X1_lay_34, r_X1_lay_35, r_X1_lay_36, r_X1_lay_37, r_X1_lay_38, r_X1_lay_41, r_X1_lay_42, r_X1_lay_43, r_X1_lay_44, r_X1_lay_47, r_X1_lay_50, r_X1_lay_53, r_X1_lay_56, fGet_0, fGet_1, fGet_2, fGet_3, fGet_4, fGet_5, fGet_6, fGet_7, fGet_8, fGet_9, fGet_10, fGet_11, fGet_12, fGet_13, fGet_14, fGet_15, fGet_16, fGet_17, fGet_18, fOk_0, fOk_1, fOk_2, fOk_3, fOk_4, fOk_5, fOk_6, fOk_7, fOk_8, fOk_9, fOk_10, fOk_11, fOk_12, fOk_13, fOk_14, fOk_15, fOk_16, fOk_17, fOk_18, fSet_0, fSet_1, fSet_2, fSet_3, fSet_4, fSet_5, fSet_6, fSet_7, fSet_8, fSet_9, fSet_10, fSet_11, fSet_12, fSet_13, fSet_14, fSet_15, fSet_16, fSet_17, fSet_18, bkIs_e, rIw_o, rL_o, rC_o, rD_o, rQ_o, bkIn_o, bkEl_o, bkUp_o, cats_n, cats_i, cats_r, cats_l, cats_d, kl_i, kl_r, kl_n, kl_l, kl_d, rI_w, ok_b0, ok_b1, ile_0_1, ile_1_0, true_or, or_true, bkK_v, bkK_0, wr_q, Nat.add_eq_left, Nat.left_eq_add, Nat.add_left_cancel_iff, Nat.reduceEqDiff, reduceIte, Nat.reduceEqDiff, nz_1, nz_2, nz_3, nz_4, nz_5, nz_6, nz_7, nz_8, nz_9, nz_10, nz_11, nz_12, true_and, and_true, Nat.reduceAdd, Nat.zero_add, Nat.add_zero, Nat.le_refl, Nat.reduceLeDiff, Nat.zero_le, not_true_eq_false, not_false_eq_true, false_implies, true_implies, implies_true, I2.1, I.1, bkK_x (M := gX1_lay) rfl, show mC gX1_lay = 0 from rfl, show mS gX1_lay = 0 from rfl]
        refine c_pieceBreadth (p := 3) I2 (by omega) ?_
        simp only [r_X1_lay_0, r_X1_lay_1, r_X1_lay_2, r_X1_lay_5, r_X1_lay_6, r_X1_lay_7, r_X1_lay_10, r_X1_lay_11, r_X1_lay_12, r_X1_lay_15, r_X1_lay_16, r_X1_lay_18, r_X1_lay_19, r_X1_lay_22, r_X1_lay_25, r_X1_lay_26, r_X1_lay_27, r_X1_lay_28, r_X1_lay_29, r_X1_lay_30, r_X1_lay_33, r_X1_lay_34, r_X1_lay_35, r_X1_lay_36, r_X1_lay_37, r_X1_lay_38, r_X1_lay_41, r_X1_lay_42, r_X1_lay_43, r_X1_lay_44, r_X1_lay_47, r_X1_lay_50, r_X1_lay_53, r_X1_lay_56, fGet_0, fGet_1, fGet_2, fGet_3, fGet_4, fGet_5, fGet_6, fGet_7, fGet_8, fGet_9, fGet_10, fGet_11, fGet_12, fGet_13, fGet_14, fGet_15, fGet_16, fGet_17, fGet_18, fOk_0, fOk_1, fOk_2, fOk_3, fOk_4, fOk_5, fOk_6, fOk_7, fOk_8, fOk_9, fOk_10, fOk_11, fOk_12, fOk_13, fOk_14, fOk_15, fOk_16, fOk_17, fOk_18, fSet_0, fSet_1, fSet_2, fSet_3, fSet_4, fSet_5, fSet_6, fSet_7, fSet_8, fSet_9, fSet_10, fSet_11, fSet_12, fSet_13, fSet_14, fSet_15, fSet_16, fSet_17, fSet_18, bkIs_e, rIw_o, rL_o, rC_o, rD_o, rQ_o, bkIn_o, bkEl_o, bkUp_o, cats_n, cats_i, cats_r, cats_l, cats_d, kl_i, kl_r, kl_n, kl_l, kl_d, rI_w, ok_b0, ok_b1, ile_0_1, ile_1_0, true_or, or_true, bkK_v, bkK_0, wr_q, Nat.add_eq_left, Nat.left_eq_add, Nat.add_left_cancel_iff, Nat.reduceEqDiff, reduceIte, Nat.reduceEqDiff, nz_1, nz_2, nz_3, nz_4, nz_5, nz_6, nz_7, nz_8, nz_9, nz_10, nz_11, nz_12, true_and, and_true, Nat.reduceAdd, Nat.zero_add, Nat.add_zero, Nat.le_refl, Nat.reduceLeDiff, Nat.zero_le, not_true_eq_false, not_false_eq_true, false_implies, true_implies, implies_true, I2.1, I.1, bkK_x (M := gX1_lay) rfl, show mC gX1_lay = 0 from rfl, show mS gX1_lay = 0 from rfl]
        refine c_layCloth I (by have := L.1; omega) fun h'' p f g u hp h1 h2 hf hg hu I3 s3 => ?_
        simp only [r_X1_lay_0, r_X1_lay_1, r_X1_lay_2, r_X1_lay_5, r_X1_lay_6, r_X1_lay_7, r_X1_lay_10, r_X1_lay_11, r_X1_lay_12, r_X1_lay_15, r_X1_lay_16, r_X1_lay_18, r_X1_lay_19, r_X1_lay_22, r_X1_lay_25, r_X1_lay_26, r_X1_lay_27, r_X1_lay_28, r_X1_lay_29, r_X1_lay_30, r_X1_lay_33, r_X1_lay_34, r_X1_lay_35, r_X1_lay_36, r_X1_lay_37, r_X1_lay_38, r_X1_lay_41, r_X1_lay_42, r_X1_lay_43, r_X1_lay_44, r_X1_lay_47, r_X1_lay_50, r_X1_lay_53, r_X1_lay_56, fGet_0, fGet_1, fGet_2, fGet_3, fGet_4, fGet_5, fGet_6, fGet_7, fGet_8, fGet_9, fGet_10, fGet_11, fGet_12, fGet_13, fGet_14, fGet_15, fGet_16, fGet_17, fGet_18, fOk_0, fOk_1, fOk_2, fOk_3, fOk_4, fOk_5, fOk_6, fOk_7, fOk_8, fOk_9, fOk_10, fOk_11, fOk_12, fOk_13, fOk_14, fOk_15, fOk_16, fOk_17, fOk_18, fSet_0, fSet_1, fSet_2, fSet_3, fSet_4, fSet_5, fSet_6, fSet_7, fSet_8, fSet_9, fSet_10, fSet_11, fSet_12, fSet_13, fSet_14, fSet_15, fSet_16, fSet_17, fSet_18, bkIs_e, rIw_o, rL_o, rC_o, rD_o, rQ_o, bkIn_o, bkEl_o, bkUp_o, cats_n, cats_i, cats_r, cats_l, cats_d, kl_i, kl_r, kl_n, kl_l, kl_d, rI_w, ok_b0, ok_b1, ile_0_1, ile_1_0, true_or, or_true, bkK_v, bkK_0, wr_q, Nat.add_eq_left, Nat.left_eq_add, Nat.add_left_cancel_iff, Nat.reduceEqDiff, reduceIte, Nat.reduceEqDiff, nz_1, nz_2, nz_3, nz_4, nz_5, nz_6, nz_7, nz_8, nz_9, nz_10, nz_11, nz_12, true_and, and_true, Nat.reduceAdd, Nat.zero_add, Nat.add_zero, Nat.le_refl, Nat.reduceLeDiff, Nat.zero_le, not_true_eq_false, not_false_eq_true, false_implies, true_implies, implies_true, mI_succ, bkK_x (M := gX1_lay) rfl, show mC gX1_lay = 0 from rfl, show mS gX1_lay = 0 from rfl]
        exact ih (k + 1) h'' _ _ (by omega) I3 (laid_step L q hp h1 h2 rfl hf hg hu) r (s.tr s3)
      · rw [if_neg q]
        simp only [r_X1_lay_0, r_X1_lay_1, r_X1_lay_2, r_X1_lay_5, r_X1_lay_6, r_X1_lay_7, r_X1_lay_10, r_X1_lay_11, r_X1_lay_12, r_X1_lay_15, r_X1_lay_16, r_X1_lay_18, r_X1_lay_19, r_X1_lay_22, r_X1_lay_25, r_X1_lay_26, r_X1_lay_27, r_X1_lay_28, r_X1_lay_29, r_X1_lay_30, r_X1_lay_34, r_X1_lay_35, r_X1_lay_36, r_X1_lay_37, r_X1_lay_38, r_X1_lay_41, r_X1_lay_42, r_X1_lay_43, r_X1_lay_44, r_X1_lay_47, r_X1_lay_50, r_X1_lay_53, r_X1_lay_56, fGet_0, fGet_1, fGet_2, fGet_3, fGet_4, fGet_5, fGet_6, fGet_7, fGet_8, fGet_9, fGet_10, fGet_11, fGet_12, fGet_13, fGet_14, fGet_15, fGet_16, fGet_17, fGet_18, fOk_0, fOk_1, fOk_2, fOk_3, fOk_4, fOk_5, fOk_6, fOk_7, fOk_8, fOk_9, fOk_10, fOk_11, fOk_12, fOk_13, fOk_14, fOk_15, fOk_16, fOk_17, fOk_18, fSet_0, fSet_1, fSet_2, fSet_3, fSet_4, fSet_5, fSet_6, fSet_7, fSet_8, fSet_9, fSet_10, fSet_11, fSet_12, fSet_13, fSet_14, fSet_15, fSet_16, fSet_17, fSet_18, bkIs_e, rIw_o, rL_o, rC_o, rD_o, rQ_o, bkIn_o, bkEl_o, bkUp_o, cats_n, cats_i, cats_r, cats_l, cats_d, kl_i, kl_r, kl_n, kl_l, kl_d, rI_w, ok_b0, ok_b1, ile_0_1, ile_1_0, true_or, or_true, bkK_v, bkK_0, wr_q, Nat.add_eq_left, Nat.left_eq_add, Nat.add_left_cancel_iff, Nat.reduceEqDiff, reduceIte, Nat.reduceEqDiff, nz_1, nz_2, nz_3, nz_4, nz_5, nz_6, nz_7, nz_8, nz_9, nz_10, nz_11, nz_12, true_and, and_true, Nat.reduceAdd, Nat.zero_add, Nat.add_zero, Nat.le_refl, Nat.reduceLeDiff, Nat.zero_le, not_true_eq_false, not_false_eq_true, false_implies, true_implies, implies_true, mI_succ, bkK_x (M := gX1_lay) rfl, show mC gX1_lay = 0 from rfl, show mS gX1_lay = 0 from rfl]
        exact ih (k + 1) h' S' Q (by omega) I (laid_skip L (by simpa using q)) r s
  refine loop A.nb 0 _ (bo, le, br, so, bl, bs, ll, A.se 4, 0, fs, fl) (fun _ => 0) (by omega) ⟨?_, ?_, ?_, ?_, ?_, ?_, ?_, ?_⟩ ⟨by dsimp only [CA.bo, CA.le, CA.br, CA.so, CA.bl, CA.bs, CA.ll, CA.ro, CA.ct, CA.fs, CA.fl]; omega, fun j hj => ?_, fun b hb => by omega, fun i j _ hj => ?_, rfl⟩ rfl ((Same.rf.wr (by omega)).wr (by omega))
  · rw [wr_s]; rfl
  · simp [wr_q]; exact i1
  · simp [wr_q]; exact i2
  · simp [wr_q]; exact i3
  · simp [wr_q]; exact i4
  · simp [wr_q]; exact i5
  · simp [wr_q]; exact i6
  · simp [wr_q]; exact i7
  · exact absurd hj (Nat.not_lt_zero _)
  · exact absurd hj (Nat.not_lt_zero _)
