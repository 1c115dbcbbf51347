/-! 31: areas and the fit -/
theorem c_clothArea {G : bkG} {h : bkHS} {C : Nat} {S : CA} (hI : IsCut h C S) (hn : S.ct ≤ 10) {Post : bkPo} (hP : Post (.inl (some (.long (areaM S.le S.br S.ct)))) h none) : CM G gX1_clothArea [.ref C] h none Post := by
  obtain ⟨bo, le, br, so, bl, bs, ll, ro, n, fs, fl⟩ := S
  obtain ⟨i0, i1, i2, i3, i4, i5, i6, i7⟩ := hI
  dsimp only [CA.bo, CA.le, CA.br, CA.so, CA.bl, CA.bs, CA.ll, CA.ro, CA.ct, CA.fs, CA.fl] at i0 i1 i2 i3 i4 i5 i6 i7 hn hP
  refine meth (lv := [some (.ref C), none, none, none]) ok_gX1_clothArea (by decide) rfl (Nat.le_of_ble_eq_true rfl) rfl ?_
  simp only [r_X1_clothArea_0, r_X1_clothArea_1, r_X1_clothArea_2, r_X1_clothArea_3, fGet_0, fGet_1, fGet_2, fGet_3, fGet_4, fGet_5, fGet_6, fGet_7, fGet_8, fGet_9, fGet_10, fGet_11, fGet_12, fGet_13, fGet_14, fGet_15, fGet_16, fGet_17, fGet_18, fOk_0, fOk_1, fOk_2, fOk_3, fOk_4, fOk_5, fOk_6, fOk_7, fOk_8, fOk_9, fOk_10, fOk_11, fOk_12, fOk_13, fOk_14, fOk_15, fOk_16, fOk_17, fOk_18, fSet_0, fSet_1, fSet_2, fSet_3, fSet_4, fSet_5, fSet_6, fSet_7, fSet_8, fSet_9, fSet_10, fSet_11, fSet_12, fSet_13, fSet_14, fSet_15, fSet_16, fSet_17, fSet_18, bkIs_e, rIw_o, rL_o, rC_o, rD_o, rQ_o, bkIn_o, bkEl_o, bkUp_o, cats_n, cats_i, cats_r, cats_l, cats_d, kl_i, kl_r, kl_n, kl_l, kl_d, rI_w, ok_b0, ok_b1, ile_0_1, ile_1_0, true_or, or_true, bkK_v, bkK_0, wr_q, Nat.add_eq_left, Nat.left_eq_add, Nat.add_left_cancel_iff, Nat.reduceEqDiff, reduceIte, Nat.reduceEqDiff, nz_1, nz_2, nz_3, nz_4, nz_5, nz_6, nz_7, nz_8, nz_9, nz_10, nz_11, nz_12, true_and, and_true, Nat.reduceAdd, Nat.zero_add, Nat.add_zero, Nat.le_refl, Nat.reduceLeDiff, Nat.zero_le, not_true_eq_false, not_false_eq_true, false_implies, true_implies, implies_true, bkK_x (M := gX1_clothArea) rfl, show mC gX1_clothArea = 0 from rfl, show mS gX1_clothArea = 0 from rfl]
  have loop : ∀ d k, k + d = n → wp G gX1_clothArea Post 4 [some (.ref C), some (.long (areaM le br k)), none, some (.int (nI k))] [] h none 0 0 := by
    intro d
    induction d with
    | zero =>
      intro k hk
      have hk : k = n := by omega
      subst hk
      simp only [r_X1_clothArea_0, r_X1_clothArea_1, r_X1_clothArea_2, r_X1_clothArea_3, r_X1_clothArea_4, r_X1_clothArea_5, r_X1_clothArea_6, r_X1_clothArea_9, r_X1_clothArea_13, r_X1_clothArea_14, r_X1_clothArea_17, r_X1_clothArea_18, r_X1_clothArea_19, r_X1_clothArea_20, r_X1_clothArea_21, r_X1_clothArea_24, r_X1_clothArea_25, r_X1_clothArea_26, r_X1_clothArea_27, r_X1_clothArea_28, r_X1_clothArea_29, r_X1_clothArea_30, r_X1_clothArea_33, r_X1_clothArea_36, r_X1_clothArea_37, fGet_0, fGet_1, fGet_2, fGet_3, fGet_4, fGet_5, fGet_6, fGet_7, fGet_8, fGet_9, fGet_10, fGet_11, fGet_12, fGet_13, fGet_14, fGet_15, fGet_16, fGet_17, fGet_18, fOk_0, fOk_1, fOk_2, fOk_3, fOk_4, fOk_5, fOk_6, fOk_7, fOk_8, fOk_9, fOk_10, fOk_11, fOk_12, fOk_13, fOk_14, fOk_15, fOk_16, fOk_17, fOk_18, fSet_0, fSet_1, fSet_2, fSet_3, fSet_4, fSet_5, fSet_6, fSet_7, fSet_8, fSet_9, fSet_10, fSet_11, fSet_12, fSet_13, fSet_14, fSet_15, fSet_16, fSet_17, fSet_18, bkIs_e, rIw_o, rL_o, rC_o, rD_o, rQ_o, bkIn_o, bkEl_o, bkUp_o, cats_n, cats_i, cats_r, cats_l, cats_d, kl_i, kl_r, kl_n, kl_l, kl_d, rI_w, ok_b0, ok_b1, ile_0_1, ile_1_0, true_or, or_true, bkK_v, bkK_0, wr_q, Nat.add_eq_left, Nat.left_eq_add, Nat.add_left_cancel_iff, Nat.reduceEqDiff, reduceIte, Nat.reduceEqDiff, nz_1, nz_2, nz_3, nz_4, nz_5, nz_6, nz_7, nz_8, nz_9, nz_10, nz_11, nz_12, true_and, and_true, Nat.reduceAdd, Nat.zero_add, Nat.add_zero, Nat.le_refl, Nat.reduceLeDiff, Nat.zero_le, not_true_eq_false, not_false_eq_true, false_implies, true_implies, implies_true, i0, mI_le (show k < 2147483648 by omega) (show k < 2147483648 by omega), bkK_x (M := gX1_clothArea) rfl, show mC gX1_clothArea = 0 from rfl, show mS gX1_clothArea = 0 from rfl]
      exact hP
    | succ d ih =>
      intro k hk
      have hc : ¬ n ≤ k := by omega
      have hi := ih (k + 1) (by omega)
      have hv : vp_in (nI k) 10 := vp_nI (by omega) (by omega)
      rw [r_X1_clothArea_4]
      simp only [r_X1_clothArea_0, r_X1_clothArea_1, r_X1_clothArea_2, r_X1_clothArea_3, r_X1_clothArea_5, r_X1_clothArea_6, r_X1_clothArea_9, r_X1_clothArea_12, r_X1_clothArea_13, r_X1_clothArea_14, r_X1_clothArea_17, r_X1_clothArea_18, r_X1_clothArea_19, r_X1_clothArea_20, r_X1_clothArea_21, r_X1_clothArea_24, r_X1_clothArea_25, r_X1_clothArea_26, r_X1_clothArea_27, r_X1_clothArea_28, r_X1_clothArea_29, r_X1_clothArea_30, r_X1_clothArea_33, r_X1_clothArea_36, r_X1_clothArea_37, fGet_0, fGet_1, fGet_2, fGet_3, fGet_4, fGet_5, fGet_6, fGet_7, fGet_8, fGet_9, fGet_10, fGet_11, fGet_12, fGet_13, fGet_14, fGet_15, fGet_16, fGet_17, fGet_18, fOk_0, fOk_1, fOk_2, fOk_3, fOk_4, fOk_5, fOk_6, fOk_7, fOk_8, fOk_9, fOk_10, fOk_11, fOk_12, fOk_13, fOk_14, fOk_15, fOk_16, fOk_17, fOk_18, fSet_0, fSet_1, fSet_2, fSet_3, fSet_4, fSet_5, fSet_6, fSet_7, fSet_8, fSet_9, fSet_10, fSet_11, fSet_12, fSet_13, fSet_14, fSet_15, fSet_16, fSet_17, fSet_18, bkIs_e, rIw_o, rL_o, rC_o, rD_o, rQ_o, bkIn_o, bkEl_o, bkUp_o, cats_n, cats_i, cats_r, cats_l, cats_d, kl_i, kl_r, kl_n, kl_l, kl_d, rI_w, ok_b0, ok_b1, ile_0_1, ile_1_0, true_or, or_true, bkK_v, bkK_0, wr_q, Nat.add_eq_left, Nat.left_eq_add, Nat.add_left_cancel_iff, Nat.reduceEqDiff, reduceIte, Nat.reduceEqDiff, nz_1, nz_2, nz_3, nz_4, nz_5, nz_6, nz_7, nz_8, nz_9, nz_10, nz_11, nz_12, true_and, and_true, Nat.reduceAdd, Nat.zero_add, Nat.add_zero, Nat.le_refl, Nat.reduceLeDiff, Nat.zero_le, not_true_eq_false, not_false_eq_true, false_implies, true_implies, implies_true, i0, mI_le (show n < 2147483648 by omega) (show k < 2147483648 by omega), hc, rI_o i2, rI_o i3, mI_nat (show k < 2147483648 by omega), mI_succ, hv, bkK_x (M := gX1_clothArea) rfl, show mC gX1_clothArea = 0 from rfl, show mS gX1_clothArea = 0 from rfl]
      exact hi
  exact loop n 0 (by omega)
/-- the first strip of d from k on with room for b, or the end -/
def ffM (L : Nat → Int32) (b : Int32) : Nat → Nat → Nat
  | k, 0 => k
  | k, d + 1 => if b ≤ L k then k else ffM L b (k + 1) d
theorem ffM_ge (L : Nat → Int32) (b : Int32) : ∀ d k, k ≤ ffM L b k d ∧ ffM L b k d ≤ k + d := by
  intro d
  induction d with
  | zero => intro k; exact ⟨Nat.le_refl _, Nat.le_refl _⟩
  | succ d ih =>
    intro k
    have := ih (k + 1)
    unfold ffM
    split <;> omega
theorem ffM_congr {L L' : Nat → Int32} (b : Int32) : ∀ d k, (∀ j, j < k + d → L j = L' j) → ffM L b k d = ffM L' b k d := by
  intro d
  induction d with
  | zero => intro k _; rfl
  | succ d ih =>
    intro k h
    unfold ffM
    rw [h k (by omega), ih (k + 1) fun j hj => h j (by omega)]
theorem c_firstStrip {G : bkG} {h : bkHS} {C : Nat} {S : CA} {b : Int32} (hI : IsCut h C S) (hn : S.fs ≤ 10) {Post : bkPo} (hP : Post (.inl (some (.int (nI (ffM S.bl b 0 S.fs))))) h none) : CM G gX1_firstStripWith [.ref C, .int b] h none Post := by
  obtain ⟨bo, le, br, so, bl, bs, ll, ro, ct, n, fl⟩ := S
  obtain ⟨i0, i1, i2, i3, i4, i5, i6, i7⟩ := hI
  dsimp only [CA.bo, CA.le, CA.br, CA.so, CA.bl, CA.bs, CA.ll, CA.ro, CA.ct, CA.fs, CA.fl] at i0 i1 i2 i3 i4 i5 i6 i7 hn hP
  refine meth (lv := [some (.ref C), some (.int b), none]) ok_gX1_firstStripWith (by decide) rfl (Nat.le_of_ble_eq_true rfl) rfl ?_
  simp only [r_X1_firstStripWith_0, r_X1_firstStripWith_1, fGet_0, fGet_1, fGet_2, fGet_3, fGet_4, fGet_5, fGet_6, fGet_7, fGet_8, fGet_9, fGet_10, fGet_11, fGet_12, fGet_13, fGet_14, fGet_15, fGet_16, fGet_17, fGet_18, fOk_0, fOk_1, fOk_2, fOk_3, fOk_4, fOk_5, fOk_6, fOk_7, fOk_8, fOk_9, fOk_10, fOk_11, fOk_12, fOk_13, fOk_14, fOk_15, fOk_16, fOk_17, fOk_18, fSet_0, fSet_1, fSet_2, fSet_3, fSet_4, fSet_5, fSet_6, fSet_7, fSet_8, fSet_9, fSet_10, fSet_11, fSet_12, fSet_13, fSet_14, fSet_15, fSet_16, fSet_17, fSet_18, bkIs_e, rIw_o, rL_o, rC_o, rD_o, rQ_o, bkIn_o, bkEl_o, bkUp_o, cats_n, cats_i, cats_r, cats_l, cats_d, kl_i, kl_r, kl_n, kl_l, kl_d, rI_w, ok_b0, ok_b1, ile_0_1, ile_1_0, true_or, or_true, bkK_v, bkK_0, wr_q, Nat.add_eq_left, Nat.left_eq_add, Nat.add_left_cancel_iff, Nat.reduceEqDiff, reduceIte, Nat.reduceEqDiff, nz_1, nz_2, nz_3, nz_4, nz_5, nz_6, nz_7, nz_8, nz_9, nz_10, nz_11, nz_12, true_and, and_true, Nat.reduceAdd, Nat.zero_add, Nat.add_zero, Nat.le_refl, Nat.reduceLeDiff, Nat.zero_le, not_true_eq_false, not_false_eq_true, false_implies, true_implies, implies_true, bkK_x (M := gX1_firstStripWith) rfl, show mC gX1_firstStripWith = 0 from rfl, show mS gX1_firstStripWith = 0 from rfl]
  have loop : ∀ d k, k + d = n → ffM bl b 0 n = ffM bl b k d → wp G gX1_firstStripWith Post 2 [some (.ref C), some (.int b), some (.int (nI k))] [] h none 0 0 := by
    intro d
    induction d with
    | zero =>
      intro k hk hq
      have hk : k = n := by omega
      subst hk
      simp only [r_X1_firstStripWith_0, r_X1_firstStripWith_1, r_X1_firstStripWith_2, r_X1_firstStripWith_3, r_X1_firstStripWith_4, r_X1_firstStripWith_7, r_X1_firstStripWith_11, r_X1_firstStripWith_14, r_X1_firstStripWith_15, r_X1_firstStripWith_16, r_X1_firstStripWith_17, r_X1_firstStripWith_20, r_X1_firstStripWith_21, r_X1_firstStripWith_22, r_X1_firstStripWith_25, r_X1_firstStripWith_28, r_X1_firstStripWith_29, r_X1_firstStripWith_32, fGet_0, fGet_1, fGet_2, fGet_3, fGet_4, fGet_5, fGet_6, fGet_7, fGet_8, fGet_9, fGet_10, fGet_11, fGet_12, fGet_13, fGet_14, fGet_15, fGet_16, fGet_17, fGet_18, fOk_0, fOk_1, fOk_2, fOk_3, fOk_4, fOk_5, fOk_6, fOk_7, fOk_8, fOk_9, fOk_10, fOk_11, fOk_12, fOk_13, fOk_14, fOk_15, fOk_16, fOk_17, fOk_18, fSet_0, fSet_1, fSet_2, fSet_3, fSet_4, fSet_5, fSet_6, fSet_7, fSet_8, fSet_9, fSet_10, fSet_11, fSet_12, fSet_13, fSet_14, fSet_15, fSet_16, fSet_17, fSet_18, bkIs_e, rIw_o, rL_o, rC_o, rD_o, rQ_o, bkIn_o, bkEl_o, bkUp_o, cats_n, cats_i, cats_r, cats_l, cats_d, kl_i, kl_r, kl_n, kl_l, kl_d, rI_w, ok_b0, ok_b1, ile_0_1, ile_1_0, true_or, or_true, bkK_v, bkK_0, wr_q, Nat.add_eq_left, Nat.left_eq_add, Nat.add_left_cancel_iff, Nat.reduceEqDiff, reduceIte, Nat.reduceEqDiff, nz_1, nz_2, nz_3, nz_4, nz_5, nz_6, nz_7, nz_8, nz_9, nz_10, nz_11, nz_12, true_and, and_true, Nat.reduceAdd, Nat.zero_add, Nat.add_zero, Nat.le_refl, Nat.reduceLeDiff, Nat.zero_le, not_true_eq_false, not_false_eq_true, false_implies, true_implies, implies_true, i0, mI_le (show k < 2147483648 by omega) (show k < 2147483648 by omega), bkK_x (M := gX1_firstStripWith) rfl, show mC gX1_firstStripWith = 0 from rfl, show mS gX1_firstStripWith = 0 from rfl]
      rw [hq] at hP
      exact hP
    | succ d ih =>
      intro k hk hq
      have hc : ¬ n ≤ k := by omega
      have hv : vp_in (nI k) 10 := vp_nI (by omega) (by omega)
      have hi := ih (k + 1) (by omega)
      rw [show ffM bl b k (d + 1) = (if b ≤ bl k then k else ffM bl b (k + 1) d) from rfl] at hq
      rw [r_X1_firstStripWith_2]
      simp only [r_X1_firstStripWith_0, r_X1_firstStripWith_1, r_X1_firstStripWith_3, r_X1_firstStripWith_4, r_X1_firstStripWith_7, r_X1_firstStripWith_10, r_X1_firstStripWith_11, r_X1_firstStripWith_14, r_X1_firstStripWith_15, r_X1_firstStripWith_16, r_X1_firstStripWith_17, r_X1_firstStripWith_20, r_X1_firstStripWith_21, r_X1_firstStripWith_22, r_X1_firstStripWith_25, r_X1_firstStripWith_28, r_X1_firstStripWith_29, r_X1_firstStripWith_32, fGet_0, fGet_1, fGet_2, fGet_3, fGet_4, fGet_5, fGet_6, fGet_7, fGet_8, fGet_9, fGet_10, fGet_11, fGet_12, fGet_13, fGet_14, fGet_15, fGet_16, fGet_17, fGet_18, fOk_0, fOk_1, fOk_2, fOk_3, fOk_4, fOk_5, fOk_6, fOk_7, fOk_8, fOk_9, fOk_10, fOk_11, fOk_12, fOk_13, fOk_14, fOk_15, fOk_16, fOk_17, fOk_18, fSet_0, fSet_1, fSet_2, fSet_3, fSet_4, fSet_5, fSet_6, fSet_7, fSet_8, fSet_9, fSet_10, fSet_11, fSet_12, fSet_13, fSet_14, fSet_15, fSet_16, fSet_17, fSet_18, bkIs_e, rIw_o, rL_o, rC_o, rD_o, rQ_o, bkIn_o, bkEl_o, bkUp_o, cats_n, cats_i, cats_r, cats_l, cats_d, kl_i, kl_r, kl_n, kl_l, kl_d, rI_w, ok_b0, ok_b1, ile_0_1, ile_1_0, true_or, or_true, bkK_v, bkK_0, wr_q, Nat.add_eq_left, Nat.left_eq_add, Nat.add_left_cancel_iff, Nat.reduceEqDiff, reduceIte, Nat.reduceEqDiff, nz_1, nz_2, nz_3, nz_4, nz_5, nz_6, nz_7, nz_8, nz_9, nz_10, nz_11, nz_12, true_and, and_true, Nat.reduceAdd, Nat.zero_add, Nat.add_zero, Nat.le_refl, Nat.reduceLeDiff, Nat.zero_le, not_true_eq_false, not_false_eq_true, false_implies, true_implies, implies_true, i0, mI_le (show n < 2147483648 by omega) (show k < 2147483648 by omega), hc, rI_o i5, mI_nat (show k < 2147483648 by omega), mI_succ, hv, bkK_x (M := gX1_firstStripWith) rfl, show mC gX1_firstStripWith = 0 from rfl, show mS gX1_firstStripWith = 0 from rfl]
      refine ⟨fun q => ?_, fun q => ?_⟩
      · rw [if_neg (Int32.not_le.mpr q)] at hq
        exact hi hq
      · rw [if_pos (Int32.not_lt.mp q)] at hq
        rw [hq] at hP
        exact hP
  exact loop n 0 (by omega) rfl
theorem c_stripOfBook {G : bkG} {h : bkHS} {C : Nat} {S : CA} {b : Int32} (hI : IsCut h C S) (hn : S.ct ≤ 10) {Post : bkPo} (hP1 : ∀ k, k < S.ct → S.bo k = b → Post (.inl (some (.int (S.so k)))) h none) (hP0 : (∀ k, k < S.ct → S.bo k ≠ b) → Post (.inl (some (.int (-1)))) h none) : CM G gX1_stripOfBook [.ref C, .int b] h none Post := by
  obtain ⟨bo, le, br, so, bl, bs, ll, ro, n, fs, fl⟩ := S
  obtain ⟨i0, i1, i2, i3, i4, i5, i6, i7⟩ := hI
  dsimp only [CA.bo, CA.le, CA.br, CA.so, CA.bl, CA.bs, CA.ll, CA.ro, CA.ct, CA.fs, CA.fl] at i0 i1 i2 i3 i4 i5 i6 i7 hn hP1 hP0
  refine meth (lv := [some (.ref C), some (.int b), none]) ok_gX1_stripOfBook (by decide) rfl (Nat.le_of_ble_eq_true rfl) rfl ?_
  simp only [r_X1_stripOfBook_0, r_X1_stripOfBook_1, fGet_0, fGet_1, fGet_2, fGet_3, fGet_4, fGet_5, fGet_6, fGet_7, fGet_8, fGet_9, fGet_10, fGet_11, fGet_12, fGet_13, fGet_14, fGet_15, fGet_16, fGet_17, fGet_18, fOk_0, fOk_1, fOk_2, fOk_3, fOk_4, fOk_5, fOk_6, fOk_7, fOk_8, fOk_9, fOk_10, fOk_11, fOk_12, fOk_13, fOk_14, fOk_15, fOk_16, fOk_17, fOk_18, fSet_0, fSet_1, fSet_2, fSet_3, fSet_4, fSet_5, fSet_6, fSet_7, fSet_8, fSet_9, fSet_10, fSet_11, fSet_12, fSet_13, fSet_14, fSet_15, fSet_16, fSet_17, fSet_18, bkIs_e, rIw_o, rL_o, rC_o, rD_o, rQ_o, bkIn_o, bkEl_o, bkUp_o, cats_n, cats_i, cats_r, cats_l, cats_d, kl_i, kl_r, kl_n, kl_l, kl_d, rI_w, ok_b0, ok_b1, ile_0_1, ile_1_0, true_or, or_true, bkK_v, bkK_0, wr_q, Nat.add_eq_left, Nat.left_eq_add, Nat.add_left_cancel_iff, Nat.reduceEqDiff, reduceIte, Nat.reduceEqDiff, nz_1, nz_2, nz_3, nz_4, nz_5, nz_6, nz_7, nz_8, nz_9, nz_10, nz_11, nz_12, true_and, and_true, Nat.reduceAdd, Nat.zero_add, Nat.add_zero, Nat.le_refl, Nat.reduceLeDiff, Nat.zero_le, not_true_eq_false, not_false_eq_true, false_implies, true_implies, implies_true, bkK_x (M := gX1_stripOfBook) rfl, show mC gX1_stripOfBook = 0 from rfl, show mS gX1_stripOfBook = 0 from rfl]
  have loop : ∀ d k, k + d = n → (∀ j, j < k → bo j ≠ b) → wp G gX1_stripOfBook Post 2 [some (.ref C), some (.int b), some (.int (nI k))] [] h none 0 0 := by
    intro d
    induction d with
    | zero =>
      intro k hk hq
      have hk : k = n := by omega
      subst hk
      simp only [r_X1_stripOfBook_0, r_X1_stripOfBook_1, r_X1_stripOfBook_2, r_X1_stripOfBook_3, r_X1_stripOfBook_4, r_X1_stripOfBook_7, r_X1_stripOfBook_11, r_X1_stripOfBook_14, r_X1_stripOfBook_15, r_X1_stripOfBook_16, r_X1_stripOfBook_17, r_X1_stripOfBook_20, r_X1_stripOfBook_21, r_X1_stripOfBook_24, r_X1_stripOfBook_25, r_X1_stripOfBook_26, r_X1_stripOfBook_27, r_X1_stripOfBook_30, r_X1_stripOfBook_33, r_X1_stripOfBook_34, fGet_0, fGet_1, fGet_2, fGet_3, fGet_4, fGet_5, fGet_6, fGet_7, fGet_8, fGet_9, fGet_10, fGet_11, fGet_12, fGet_13, fGet_14, fGet_15, fGet_16, fGet_17, fGet_18, fOk_0, fOk_1, fOk_2, fOk_3, fOk_4, fOk_5, fOk_6, fOk_7, fOk_8, fOk_9, fOk_10, fOk_11, fOk_12, fOk_13, fOk_14, fOk_15, fOk_16, fOk_17, fOk_18, fSet_0, fSet_1, fSet_2, fSet_3, fSet_4, fSet_5, fSet_6, fSet_7, fSet_8, fSet_9, fSet_10, fSet_11, fSet_12, fSet_13, fSet_14, fSet_15, fSet_16, fSet_17, fSet_18, bkIs_e, rIw_o, rL_o, rC_o, rD_o, rQ_o, bkIn_o, bkEl_o, bkUp_o, cats_n, cats_i, cats_r, cats_l, cats_d, kl_i, kl_r, kl_n, kl_l, kl_d, rI_w, ok_b0, ok_b1, ile_0_1, ile_1_0, true_or, or_true, bkK_v, bkK_0, wr_q, Nat.add_eq_left, Nat.left_eq_add, Nat.add_left_cancel_iff, Nat.reduceEqDiff, reduceIte, Nat.reduceEqDiff, nz_1, nz_2, nz_3, nz_4, nz_5, nz_6, nz_7, nz_8, nz_9, nz_10, nz_11, nz_12, true_and, and_true, Nat.reduceAdd, Nat.zero_add, Nat.add_zero, Nat.le_refl, Nat.reduceLeDiff, Nat.zero_le, not_true_eq_false, not_false_eq_true, false_implies, true_implies, implies_true, i0, mI_le (show k < 2147483648 by omega) (show k < 2147483648 by omega), bkK_x (M := gX1_stripOfBook) rfl, show mC gX1_stripOfBook = 0 from rfl, show mS gX1_stripOfBook = 0 from rfl]
      exact hP0 hq
    | succ d ih =>
      intro k hk hq
      have hc : ¬ n ≤ k := by omega
      have hv : vp_in (nI k) 10 := vp_nI (by omega) (by omega)
      have hi := ih (k + 1) (by omega)
      rw [r_X1_stripOfBook_2]
      simp only [r_X1_stripOfBook_0, r_X1_stripOfBook_1, r_X1_stripOfBook_3, r_X1_stripOfBook_4, r_X1_stripOfBook_7, r_X1_stripOfBook_10, r_X1_stripOfBook_11, r_X1_stripOfBook_14, r_X1_stripOfBook_15, r_X1_stripOfBook_16, r_X1_stripOfBook_17, r_X1_stripOfBook_20, r_X1_stripOfBook_21, r_X1_stripOfBook_24, r_X1_stripOfBook_25, r_X1_stripOfBook_26, r_X1_stripOfBook_27, r_X1_stripOfBook_30, r_X1_stripOfBook_33, r_X1_stripOfBook_34, fGet_0, fGet_1, fGet_2, fGet_3, fGet_4, fGet_5, fGet_6, fGet_7, fGet_8, fGet_9, fGet_10, fGet_11, fGet_12, fGet_13, fGet_14, fGet_15, fGet_16, fGet_17, fGet_18, fOk_0, fOk_1, fOk_2, fOk_3, fOk_4, fOk_5, fOk_6, fOk_7, fOk_8, fOk_9, fOk_10, fOk_11, fOk_12, fOk_13, fOk_14, fOk_15, fOk_16, fOk_17, fOk_18, fSet_0, fSet_1, fSet_2, fSet_3, fSet_4, fSet_5, fSet_6, fSet_7, fSet_8, fSet_9, fSet_10, fSet_11, fSet_12, fSet_13, fSet_14, fSet_15, fSet_16, fSet_17, fSet_18, bkIs_e, rIw_o, rL_o, rC_o, rD_o, rQ_o, bkIn_o, bkEl_o, bkUp_o, cats_n, cats_i, cats_r, cats_l, cats_d, kl_i, kl_r, kl_n, kl_l, kl_d, rI_w, ok_b0, ok_b1, ile_0_1, ile_1_0, true_or, or_true, bkK_v, bkK_0, wr_q, Nat.add_eq_left, Nat.left_eq_add, Nat.add_left_cancel_iff, Nat.reduceEqDiff, reduceIte, Nat.reduceEqDiff, nz_1, nz_2, nz_3, nz_4, nz_5, nz_6, nz_7, nz_8, nz_9, nz_10, nz_11, nz_12, true_and, and_true, Nat.reduceAdd, Nat.zero_add, Nat.add_zero, Nat.le_refl, Nat.reduceLeDiff, Nat.zero_le, not_true_eq_false, not_false_eq_true, false_implies, true_implies, implies_true, i0, mI_le (show n < 2147483648 by omega) (show k < 2147483648 by omega), hc, rI_o i1, rI_o i4, mI_nat (show k < 2147483648 by omega), mI_succ, hv, bkK_x (M := gX1_stripOfBook) rfl, show mC gX1_stripOfBook = 0 from rfl, show mS gX1_stripOfBook = 0 from rfl]
      refine ⟨fun q => ?_, fun q => ?_⟩
      · exact hP1 k (by omega) q
      · exact hi fun j hj => by
          by_cases e : j = k
          · subst e; exact q
          · exact hq j (by omega)
  exact loop n 0 (by omega) fun j hj => by omega
/-- strips, what is left in each, their length, after k places -/
def fiM (le br : Nat → Int32) (ro : Int32) : Nat → Nat × (Nat → Int32) × Int32
  | 0 => (0, fun _ => 0, 0)
  | k + 1 => if ffM (fiM le br ro k).2.1 (br k) 0 (fiM le br ro k).1 = (fiM le br ro k).1 then ((fiM le br ro k).1 + 1, va_up (fiM le br ro k).2.1 (fiM le br ro k).1 (ro - br k), (fiM le br ro k).2.2 + le k)
    else ((fiM le br ro k).1, va_up (fiM le br ro k).2.1 (ffM (fiM le br ro k).2.1 (br k) 0 (fiM le br ro k).1) ((fiM le br ro k).2.1 (ffM (fiM le br ro k).2.1 (br k) 0 (fiM le br ro k).1) - br k), (fiM le br ro k).2.2)
def stM (le br : Nat → Int32) (ro : Int32) (k : Nat) : Nat := ffM (fiM le br ro k).2.1 (br k) 0 (fiM le br ro k).1
theorem fiM_le (le br : Nat → Int32) (ro : Int32) : ∀ k, (fiM le br ro k).1 ≤ k := by
  intro k
  induction k with
  | zero => exact Nat.le_refl 0
  | succ k ih => unfold fiM; split <;> dsimp only <;> omega
theorem c_fit {G : bkG} {h : bkHS} {C : Nat} {S : CA} (hI : IsCut h C S) (hn : S.ct ≤ 10) {Post : bkPo}
    (hP : ∀ h' so bl, IsCut h' C (S.bo, S.le, S.br, so, bl, S.bs, S.ll, S.ro, S.ct, (fiM S.le S.br S.ro S.ct).1, (fiM S.le S.br S.ro S.ct).2.2) → (∀ j, j < S.ct → so j = nI (stM S.le S.br S.ro j)) → Same h h' C 8 → Post (.inl none) h' none) : CM G gX1_fit [.ref C] h none Post := by
  obtain ⟨bo, le, br, so, bl, bs, ll, ro, n, fs, fl⟩ := S
  obtain ⟨i0, i1, i2, i3, i4, i5, i6, i7⟩ := hI
  dsimp only [CA.bo, CA.le, CA.br, CA.so, CA.bl, CA.bs, CA.ll, CA.ro, CA.ct, CA.fs, CA.fl] at i0 i1 i2 i3 i4 i5 i6 i7 hn hP
  refine meth (lv := [some (.ref C), none, none]) ok_gX1_fit (by decide) rfl (Nat.le_of_ble_eq_true rfl) rfl ?_
  simp only [r_X1_fit_0, r_X1_fit_1, r_X1_fit_2, r_X1_fit_5, r_X1_fit_6, r_X1_fit_7, r_X1_fit_10, r_X1_fit_11, r_X1_fit_13, r_X1_fit_14, r_X1_fit_17, r_X1_fit_20, r_X1_fit_21, r_X1_fit_22, r_X1_fit_25, r_X1_fit_26, r_X1_fit_27, r_X1_fit_30, r_X1_fit_31, r_X1_fit_32, r_X1_fit_33, r_X1_fit_36, r_X1_fit_39, r_X1_fit_40, r_X1_fit_41, r_X1_fit_44, r_X1_fit_45, r_X1_fit_46, r_X1_fit_49, r_X1_fit_50, r_X1_fit_51, r_X1_fit_54, r_X1_fit_55, r_X1_fit_58, r_X1_fit_59, r_X1_fit_60, r_X1_fit_61, r_X1_fit_64, r_X1_fit_65, r_X1_fit_68, r_X1_fit_69, r_X1_fit_70, r_X1_fit_73, r_X1_fit_74, r_X1_fit_75, r_X1_fit_78, r_X1_fit_79, r_X1_fit_80, r_X1_fit_81, r_X1_fit_82, r_X1_fit_85, r_X1_fit_86, r_X1_fit_87, r_X1_fit_88, r_X1_fit_89, r_X1_fit_90, r_X1_fit_93, r_X1_fit_94, r_X1_fit_95, r_X1_fit_96, r_X1_fit_99, r_X1_fit_102, fGet_0, fGet_1, fGet_2, fGet_3, fGet_4, fGet_5, fGet_6, fGet_7, fGet_8, fGet_9, fGet_10, fGet_11, fGet_12, fGet_13, fGet_14, fGet_15, fGet_16, fGet_17, fGet_18, fOk_0, fOk_1, fOk_2, fOk_3, fOk_4, fOk_5, fOk_6, fOk_7, fOk_8, fOk_9, fOk_10, fOk_11, fOk_12, fOk_13, fOk_14, fOk_15, fOk_16, fOk_17, fOk_18, fSet_0, fSet_1, fSet_2, fSet_3, fSet_4, fSet_5, fSet_6, fSet_7, fSet_8, fSet_9, fSet_10, fSet_11, fSet_12, fSet_13, fSet_14, fSet_15, fSet_16, fSet_17, fSet_18, bkIs_e, rIw_o, rL_o, rC_o, rD_o, rQ_o, bkIn_o, bkEl_o, bkUp_o, cats_n, cats_i, cats_r, cats_l, cats_d, kl_i, kl_r, kl_n, kl_l, kl_d, rI_w, ok_b0, ok_b1, ile_0_1, ile_1_0, true_or, or_true, bkK_v, bkK_0, wr_q, Nat.add_eq_left, Nat.left_eq_add, Nat.add_left_cancel_iff, Nat.reduceEqDiff, reduceIte, Nat.reduceEqDiff, nz_1, nz_2, nz_3, nz_4, nz_5, nz_6, nz_7, nz_8, nz_9, nz_10, nz_11, nz_12, true_and, and_true, Nat.reduceAdd, Nat.zero_add, Nat.add_zero, Nat.le_refl, Nat.reduceLeDiff, Nat.zero_le, not_true_eq_false, not_false_eq_true, false_implies, true_implies, implies_true, i0, bkK_x (M := gX1_fit) rfl, show mC gX1_fit = 0 from rfl, show mS gX1_fit = 0 from rfl]
  have loop : ∀ d k h' so bl t, k + d = n → IsCut h' C (bo, le, br, so, bl, bs, ll, ro, n, (fiM le br ro k).1, (fiM le br ro k).2.2) → (∀ j, j < k → so j = nI (stM le br ro j)) → (∀ j, j < (fiM le br ro k).1 → bl j = (fiM le br ro k).2.1 j) → Same h h' C 8 →
      wp G gX1_fit Post 12 [some (.ref C), some (.int (nI k)), t] [] h' none 0 0 := by
    intro d
    induction d with
    | zero =>
      intro k h' so bl t hk I a b s
      have hk : k = n := by omega
      subst hk
      have i0 := I.1
      dsimp only [CA.bo, CA.le, CA.br, CA.so, CA.bl, CA.bs, CA.ll, CA.ro, CA.ct, CA.fs, CA.fl] at i0
      rw [r_X1_fit_12]
      simp only [r_X1_fit_0, r_X1_fit_1, r_X1_fit_2, r_X1_fit_5, r_X1_fit_6, r_X1_fit_7, r_X1_fit_10, r_X1_fit_11, r_X1_fit_13, r_X1_fit_14, r_X1_fit_17, r_X1_fit_21, r_X1_fit_22, r_X1_fit_25, r_X1_fit_26, r_X1_fit_27, r_X1_fit_30, r_X1_fit_31, r_X1_fit_32, r_X1_fit_33, r_X1_fit_36, r_X1_fit_39, r_X1_fit_40, r_X1_fit_41, r_X1_fit_44, r_X1_fit_45, r_X1_fit_46, r_X1_fit_49, r_X1_fit_50, r_X1_fit_51, r_X1_fit_54, r_X1_fit_55, r_X1_fit_58, r_X1_fit_59, r_X1_fit_60, r_X1_fit_61, r_X1_fit_64, r_X1_fit_65, r_X1_fit_68, r_X1_fit_69, r_X1_fit_70, r_X1_fit_73, r_X1_fit_74, r_X1_fit_75, r_X1_fit_78, r_X1_fit_79, r_X1_fit_80, r_X1_fit_81, r_X1_fit_82, r_X1_fit_85, r_X1_fit_86, r_X1_fit_87, r_X1_fit_88, r_X1_fit_89, r_X1_fit_90, r_X1_fit_93, r_X1_fit_94, r_X1_fit_95, r_X1_fit_96, r_X1_fit_99, r_X1_fit_102, fGet_0, fGet_1, fGet_2, fGet_3, fGet_4, fGet_5, fGet_6, fGet_7, fGet_8, fGet_9, fGet_10, fGet_11, fGet_12, fGet_13, fGet_14, fGet_15, fGet_16, fGet_17, fGet_18, fOk_0, fOk_1, fOk_2, fOk_3, fOk_4, fOk_5, fOk_6, fOk_7, fOk_8, fOk_9, fOk_10, fOk_11, fOk_12, fOk_13, fOk_14, fOk_15, fOk_16, fOk_17, fOk_18, fSet_0, fSet_1, fSet_2, fSet_3, fSet_4, fSet_5, fSet_6, fSet_7, fSet_8, fSet_9, fSet_10, fSet_11, fSet_12, fSet_13, fSet_14, fSet_15, fSet_16, fSet_17, fSet_18, bkIs_e, rIw_o, rL_o, rC_o, rD_o, rQ_o, bkIn_o, bkEl_o, bkUp_o, cats_n, cats_i, cats_r, cats_l, cats_d, kl_i, kl_r, kl_n, kl_l, kl_d, rI_w, ok_b0, ok_b1, ile_0_1, ile_1_0, true_or, or_true, bkK_v, bkK_0, wr_q, Nat.add_eq_left, Nat.left_eq_add, Nat.add_left_cancel_iff, Nat.reduceEqDiff, reduceIte, Nat.reduceEqDiff, nz_1, nz_2, nz_3, nz_4, nz_5, nz_6, nz_7, nz_8, nz_9, nz_10, nz_11, nz_12, true_and, and_true, Nat.reduceAdd, Nat.zero_add, Nat.add_zero, Nat.le_refl, Nat.reduceLeDiff, Nat.zero_le, not_true_eq_false, not_false_eq_true, false_implies, true_implies, implies_true, i0, mI_le (show k < 2147483648 by omega) (show k < 2147483648 by omega), bkK_x (M := gX1_fit) rfl, show mC gX1_fit = 0 from rfl, show mS gX1_fit = 0 from rfl]
      exact hP _ so bl I a s
    | succ d ih =>
      intro k h' so bl t hk I a b s
      have hc : ¬ n ≤ k := by omega
      have hv : vp_in (nI k) 10 := vp_nI (by omega) (by omega)
      obtain ⟨i0, i1, i2, i3, i4, i5, i6, i7⟩ := id I
      dsimp only [CA.bo, CA.le, CA.br, CA.so, CA.bl, CA.bs, CA.ll, CA.ro, CA.ct, CA.fs, CA.fl] at i0 i1 i2 i3 i4 i5 i6 i7
      have hf := fiM_le le br ro k
      have hg := ffM_ge (fiM le br ro k).2.1 (br k) (fiM le br ro k).1 0
      have hs : ffM bl (br k) 0 (fiM le br ro k).1 = stM le br ro k := ffM_congr _ _ _ fun j hj => b j (by omega)
      have hst : stM le br ro k = ffM (fiM le br ro k).2.1 (br k) 0 (fiM le br ro k).1 := rfl
      rw [r_X1_fit_12]
      simp only [r_X1_fit_0, r_X1_fit_1, r_X1_fit_2, r_X1_fit_5, r_X1_fit_6, r_X1_fit_7, r_X1_fit_10, r_X1_fit_11, r_X1_fit_13, r_X1_fit_14, r_X1_fit_17, r_X1_fit_20, r_X1_fit_21, r_X1_fit_22, r_X1_fit_25, r_X1_fit_26, r_X1_fit_27, r_X1_fit_30, r_X1_fit_31, r_X1_fit_32, r_X1_fit_33, r_X1_fit_36, r_X1_fit_39, r_X1_fit_40, r_X1_fit_41, r_X1_fit_44, r_X1_fit_45, r_X1_fit_46, r_X1_fit_49, r_X1_fit_50, r_X1_fit_51, r_X1_fit_54, r_X1_fit_55, r_X1_fit_58, r_X1_fit_59, r_X1_fit_60, r_X1_fit_61, r_X1_fit_64, r_X1_fit_65, r_X1_fit_68, r_X1_fit_69, r_X1_fit_70, r_X1_fit_73, r_X1_fit_74, r_X1_fit_75, r_X1_fit_78, r_X1_fit_79, r_X1_fit_80, r_X1_fit_81, r_X1_fit_82, r_X1_fit_85, r_X1_fit_86, r_X1_fit_87, r_X1_fit_88, r_X1_fit_89, r_X1_fit_90, r_X1_fit_93, r_X1_fit_94, r_X1_fit_95, r_X1_fit_96, r_X1_fit_99, r_X1_fit_102, fGet_0, fGet_1, fGet_2, fGet_3, fGet_4, fGet_5, fGet_6, fGet_7, fGet_8, fGet_9, fGet_10, fGet_11, fGet_12, fGet_13, fGet_14, fGet_15, fGet_16, fGet_17, fGet_18, fOk_0, fOk_1, fOk_2, fOk_3, fOk_4, fOk_5, fOk_6, fOk_7, fOk_8, fOk_9, fOk_10, fOk_11, fOk_12, fOk_13, fOk_14, fOk_15, fOk_16, fOk_17, fOk_18, fSet_0, fSet_1, fSet_2, fSet_3, fSet_4, fSet_5, fSet_6, fSet_7, fSet_8, fSet_9, fSet_10, fSet_11, fSet_12, fSet_13, fSet_14, fSet_15, fSet_16, fSet_17, fSet_18, bkIs_e, rIw_o, rL_o, rC_o, rD_o, rQ_o, bkIn_o, bkEl_o, bkUp_o, cats_n, cats_i, cats_r, cats_l, cats_d, kl_i, kl_r, kl_n, kl_l, kl_d, rI_w, ok_b0, ok_b1, ile_0_1, ile_1_0, true_or, or_true, bkK_v, bkK_0, wr_q, Nat.add_eq_left, Nat.left_eq_add, Nat.add_left_cancel_iff, Nat.reduceEqDiff, reduceIte, Nat.reduceEqDiff, nz_1, nz_2, nz_3, nz_4, nz_5, nz_6, nz_7, nz_8, nz_9, nz_10, nz_11, nz_12, true_and, and_true, Nat.reduceAdd, Nat.zero_add, Nat.add_zero, Nat.le_refl, Nat.reduceLeDiff, Nat.zero_le, not_true_eq_false, not_false_eq_true, false_implies, true_implies, implies_true, i0, rI_o i3, mI_le (show n < 2147483648 by omega) (show k < 2147483648 by omega), hc, mI_nat (show k < 2147483648 by omega), hv, bkK_x (M := gX1_fit) rfl, show mC gX1_fit = 0 from rfl, show mS gX1_fit = 0 from rfl]
      refine c_firstStrip I (by dsimp only [CA.bo, CA.le, CA.br, CA.so, CA.bl, CA.bs, CA.ll, CA.ro, CA.ct, CA.fs, CA.fl]; omega) ?_
      dsimp only [CA.bo, CA.le, CA.br, CA.so, CA.bl, CA.bs, CA.ll, CA.ro, CA.ct, CA.fs, CA.fl]
      rw [hs]
      have hvs : vp_in (nI (stM le br ro k)) 10 := vp_nI (by omega) (by omega)
      simp only [r_X1_fit_0, r_X1_fit_1, r_X1_fit_2, r_X1_fit_5, r_X1_fit_6, r_X1_fit_7, r_X1_fit_10, r_X1_fit_11, r_X1_fit_13, r_X1_fit_14, r_X1_fit_17, r_X1_fit_20, r_X1_fit_21, r_X1_fit_22, r_X1_fit_25, r_X1_fit_26, r_X1_fit_27, r_X1_fit_30, r_X1_fit_31, r_X1_fit_32, r_X1_fit_33, r_X1_fit_36, r_X1_fit_39, r_X1_fit_40, r_X1_fit_41, r_X1_fit_44, r_X1_fit_45, r_X1_fit_46, r_X1_fit_49, r_X1_fit_50, r_X1_fit_51, r_X1_fit_54, r_X1_fit_55, r_X1_fit_58, r_X1_fit_59, r_X1_fit_60, r_X1_fit_61, r_X1_fit_64, r_X1_fit_65, r_X1_fit_68, r_X1_fit_69, r_X1_fit_70, r_X1_fit_73, r_X1_fit_74, r_X1_fit_75, r_X1_fit_78, r_X1_fit_79, r_X1_fit_80, r_X1_fit_81, r_X1_fit_82, r_X1_fit_85, r_X1_fit_86, r_X1_fit_87, r_X1_fit_88, r_X1_fit_89, r_X1_fit_90, r_X1_fit_93, r_X1_fit_94, r_X1_fit_95, r_X1_fit_96, r_X1_fit_99, r_X1_fit_102, fGet_0, fGet_1, fGet_2, fGet_3, fGet_4, fGet_5, fGet_6, fGet_7, fGet_8, fGet_9, fGet_10, fGet_11, fGet_12, fGet_13, fGet_14, fGet_15, fGet_16, fGet_17, fGet_18, fOk_0, fOk_1, fOk_2, fOk_3, fOk_4, fOk_5, fOk_6, fOk_7, fOk_8, fOk_9, fOk_10, fOk_11, fOk_12, fOk_13, fOk_14, fOk_15, fOk_16, fOk_17, fOk_18, fSet_0, fSet_1, fSet_2, fSet_3, fSet_4, fSet_5, fSet_6, fSet_7, fSet_8, fSet_9, fSet_10, fSet_11, fSet_12, fSet_13, fSet_14, fSet_15, fSet_16, fSet_17, fSet_18, bkIs_e, rIw_o, rL_o, rC_o, rD_o, rQ_o, bkIn_o, bkEl_o, bkUp_o, cats_n, cats_i, cats_r, cats_l, cats_d, kl_i, kl_r, kl_n, kl_l, kl_d, rI_w, ok_b0, ok_b1, ile_0_1, ile_1_0, true_or, or_true, bkK_v, bkK_0, wr_q, Nat.add_eq_left, Nat.left_eq_add, Nat.add_left_cancel_iff, Nat.reduceEqDiff, reduceIte, Nat.reduceEqDiff, nz_1, nz_2, nz_3, nz_4, nz_5, nz_6, nz_7, nz_8, nz_9, nz_10, nz_11, nz_12, true_and, and_true, Nat.reduceAdd, Nat.zero_add, Nat.add_zero, Nat.le_refl, Nat.reduceLeDiff, Nat.zero_le, not_true_eq_false, not_false_eq_true, false_implies, true_implies, implies_true, i0, i2, i3, i4, i5, rI_o i2, rI_o i3, rI_o i5, mI_nat (show k < 2147483648 by omega), mI_nat (show stM le br ro k < 2147483648 by omega), hv, hvs, mI_succ, mI_inj (show stM le br ro k < 2147483648 by omega) (show (fiM le br ro k).1 < 2147483648 by omega), bkK_x (M := gX1_fit) rfl, show mC gX1_fit = 0 from rfl, show mS gX1_fit = 0 from rfl]
      have hso : ∀ j, j < k + 1 → va_up so k (nI (stM le br ro k)) j = nI (stM le br ro j) := by
        intro j hj
        unfold va_up
        by_cases e : j = k
        · rw [if_pos e, e]
        · rw [if_neg e]; exact a j (by omega)
      refine ⟨fun q => ?_, fun q => ?_⟩
      · have e1 : fiM le br ro (k + 1) = ((fiM le br ro k).1 + 1, va_up (fiM le br ro k).2.1 (fiM le br ro k).1 (ro - br k), (fiM le br ro k).2.2 + le k) := if_pos q
        refine ih (k + 1) _ (va_up so k (nI (stM le br ro k))) (va_up (va_up bl (stM le br ro k) ro) (stM le br ro k) (va_up bl (stM le br ro k) ro (stM le br ro k) - br k)) _ (by omega) ?_ hso ?_ (((((s.wr (by omega)).wr (by omega)).wr (by omega)).wr (by omega)).wr (by omega))
        · rw [e1]
          refine ⟨?_, ?_, ?_, ?_, ?_, ?_, ?_, ?_⟩
          · simp [wr_q]
          · simp [wr_q]; exact i1
          · simp [wr_q]; exact i2
          · simp [wr_q]; exact i3
          · simp [wr_q]
          · simp [wr_q]
          · simp [wr_q]; exact i6
          · simp [wr_q]; exact i7
        · rw [e1]
          intro j hj
          dsimp only at hj ⊢
          unfold va_up
          rw [q]
          by_cases e : j = (fiM le br ro k).1
          · rw [if_pos e, if_pos rfl, if_pos e]
          · rw [if_neg e, if_neg e, if_neg e]
            exact b j (by omega)
      · have e1 : fiM le br ro (k + 1) = ((fiM le br ro k).1, va_up (fiM le br ro k).2.1 (stM le br ro k) ((fiM le br ro k).2.1 (stM le br ro k) - br k), (fiM le br ro k).2.2) := if_neg q
        refine ih (k + 1) _ (va_up so k (nI (stM le br ro k))) (va_up bl (stM le br ro k) (bl (stM le br ro k) - br k)) _ (by omega) ?_ hso ?_ ((s.wr (by omega)).wr (by omega))
        · rw [e1]
          refine ⟨?_, ?_, ?_, ?_, ?_, ?_, ?_, ?_⟩
          · simp [wr_q]; exact i0
          · simp [wr_q]; exact i1
          · simp [wr_q]; exact i2
          · simp [wr_q]; exact i3
          · simp [wr_q]
          · simp [wr_q]
          · simp [wr_q]; exact i6
          · simp [wr_q]; exact i7
        · rw [e1]
          intro j hj
          dsimp only at hj ⊢
          unfold va_up
          rw [b (stM le br ro k) (by omega)]
          by_cases e : j = stM le br ro k
          · rw [if_pos e, if_pos e]
          · rw [if_neg e, if_neg e]
            exact b j (by omega)
  refine loop n 0 _ so bl none (by omega) ⟨?_, ?_, ?_, ?_, ?_, ?_, ?_, ?_⟩ (fun j hj => by omega) (fun j hj => absurd hj (Nat.not_lt_zero _)) ((Same.rf.wr (by omega)).wr (by omega))
  · rw [wr_s]; rfl
  · simp [wr_q]; exact i1
  · simp [wr_q]; exact i2
  · simp [wr_q]; exact i3
  · simp [wr_q]; exact i4
  · simp [wr_q]; exact i5
  · simp [wr_q]; exact i6
  · simp [wr_q]; exact i7
