/-! 20: the lots of a plan -/
abbrev LA : Type := Nat × (Nat → Int32) × (Nat → Int32) × (Nat → Int32)
def IsLots (h : bkHS) (a : Nat) (L : LA) : Prop := h a = some (eO 3 [.ref (a + 1), .ref (a + 2), .ref (a + 3), .int (nI L.1)]) ∧ h (a + 1) = some (eI 30 L.2.1) ∧ h (a + 2) = some (eI 30 L.2.2.1) ∧ h (a + 3) = some (eI 30 L.2.2.2)
def cntM (f : Nat → Int32) (m : Int32) : Nat → Nat
  | 0 => 0
  | k + 1 => if f k = m then cntM f m k + 1 else cntM f m k
theorem c_countOf {G : bkG} {h : bkHS} {a : Nat} {L : LA} {m : Int32} (hL : IsLots h a L) (hn : L.1 ≤ 30) {Post : bkPo} (hP : Post (.inl (some (.int (nI (cntM L.2.1 m L.1))))) h none) : CM G gX3_countOf [.ref a, .int m] h none Post := by
  obtain ⟨n, f1, f2, f3⟩ := L
  obtain ⟨h0, h1, h2, h3⟩ := hL
  dsimp only at h0 h1 h2 h3 hn hP
  refine meth (lv := [some (.ref a), some (.int m), none, none]) ok_gX3_countOf (by decide) rfl (Nat.le_of_ble_eq_true rfl) rfl ?_
  simp only [r_X3_countOf_0, r_X3_countOf_1, r_X3_countOf_2, r_X3_countOf_3, fGet_0, fGet_1, fGet_2, fGet_3, fGet_4, fGet_5, fGet_6, fGet_7, fGet_8, fGet_9, fGet_10, fGet_11, fGet_12, fGet_13, fGet_14, fGet_15, fGet_16, fGet_17, fGet_18, fOk_0, fOk_1, fOk_2, fOk_3, fOk_4, fOk_5, fOk_6, fOk_7, fOk_8, fOk_9, fOk_10, fOk_11, fOk_12, fOk_13, fOk_14, fOk_15, fOk_16, fOk_17, fOk_18, fSet_0, fSet_1, fSet_2, fSet_3, fSet_4, fSet_5, fSet_6, fSet_7, fSet_8, fSet_9, fSet_10, fSet_11, fSet_12, fSet_13, fSet_14, fSet_15, fSet_16, fSet_17, fSet_18, bkIs_e, rIw_o, rL_o, rC_o, rD_o, rQ_o, bkIn_o, bkEl_o, bkUp_o, cats_n, cats_i, cats_r, cats_l, cats_d, kl_i, kl_r, kl_n, kl_l, kl_d, ok_b0, ok_b1, bkK_v, bkK_0, wr_s, true_and, and_true, Nat.reduceAdd, Nat.zero_add, Nat.add_zero, Nat.le_refl, Nat.reduceLeDiff, Nat.zero_le, not_true_eq_false, not_false_eq_true, false_implies, true_implies, implies_true]
  have loop : ∀ d k, k + d = n → wp G gX3_countOf Post 4 [some (.ref a), some (.int m), some (.int (nI (cntM f1 m k))), some (.int (nI k))] [] h none 0 0 := by
    intro d
    induction d with
    | zero =>
      intro k hk
      have hk : k = n := by omega
      subst hk
      simp only [r_X3_countOf_0, r_X3_countOf_1, r_X3_countOf_2, r_X3_countOf_3, r_X3_countOf_4, r_X3_countOf_5, r_X3_countOf_6, r_X3_countOf_9, r_X3_countOf_13, r_X3_countOf_16, r_X3_countOf_17, r_X3_countOf_18, r_X3_countOf_19, r_X3_countOf_22, r_X3_countOf_25, r_X3_countOf_28, r_X3_countOf_31, r_X3_countOf_32, fGet_0, fGet_1, fGet_2, fGet_3, fGet_4, fGet_5, fGet_6, fGet_7, fGet_8, fGet_9, fGet_10, fGet_11, fGet_12, fGet_13, fGet_14, fGet_15, fGet_16, fGet_17, fGet_18, fOk_0, fOk_1, fOk_2, fOk_3, fOk_4, fOk_5, fOk_6, fOk_7, fOk_8, fOk_9, fOk_10, fOk_11, fOk_12, fOk_13, fOk_14, fOk_15, fOk_16, fOk_17, fOk_18, fSet_0, fSet_1, fSet_2, fSet_3, fSet_4, fSet_5, fSet_6, fSet_7, fSet_8, fSet_9, fSet_10, fSet_11, fSet_12, fSet_13, fSet_14, fSet_15, fSet_16, fSet_17, fSet_18, bkIs_e, rIw_o, rL_o, rC_o, rD_o, rQ_o, bkIn_o, bkEl_o, bkUp_o, cats_n, cats_i, cats_r, cats_l, cats_d, kl_i, kl_r, kl_n, kl_l, kl_d, ok_b0, ok_b1, bkK_v, bkK_0, wr_s, true_and, and_true, Nat.reduceAdd, Nat.zero_add, Nat.add_zero, Nat.le_refl, Nat.reduceLeDiff, Nat.zero_le, not_true_eq_false, not_false_eq_true, false_implies, true_implies, implies_true, h0, mI_le (show k < 2147483648 by omega) (show k < 2147483648 by omega)]
      exact hP
    | succ d ih =>
      intro k hk
      have hc : ¬ n ≤ k := by omega
      have hi := ih (k + 1) (by omega)
      rw [r_X3_countOf_4]
      simp only [r_X3_countOf_0, r_X3_countOf_1, r_X3_countOf_2, r_X3_countOf_3, r_X3_countOf_5, r_X3_countOf_6, r_X3_countOf_9, r_X3_countOf_12, r_X3_countOf_13, r_X3_countOf_16, r_X3_countOf_17, r_X3_countOf_18, r_X3_countOf_19, r_X3_countOf_22, r_X3_countOf_25, r_X3_countOf_28, r_X3_countOf_31, r_X3_countOf_32, fGet_0, fGet_1, fGet_2, fGet_3, fGet_4, fGet_5, fGet_6, fGet_7, fGet_8, fGet_9, fGet_10, fGet_11, fGet_12, fGet_13, fGet_14, fGet_15, fGet_16, fGet_17, fGet_18, fOk_0, fOk_1, fOk_2, fOk_3, fOk_4, fOk_5, fOk_6, fOk_7, fOk_8, fOk_9, fOk_10, fOk_11, fOk_12, fOk_13, fOk_14, fOk_15, fOk_16, fOk_17, fOk_18, fSet_0, fSet_1, fSet_2, fSet_3, fSet_4, fSet_5, fSet_6, fSet_7, fSet_8, fSet_9, fSet_10, fSet_11, fSet_12, fSet_13, fSet_14, fSet_15, fSet_16, fSet_17, fSet_18, bkIs_e, rIw_o, rL_o, rC_o, rD_o, rQ_o, bkIn_o, bkEl_o, bkUp_o, cats_n, cats_i, cats_r, cats_l, cats_d, kl_i, kl_r, kl_n, kl_l, kl_d, ok_b0, ok_b1, bkK_v, bkK_0, wr_s, true_and, and_true, Nat.reduceAdd, Nat.zero_add, Nat.add_zero, Nat.le_refl, Nat.reduceLeDiff, Nat.zero_le, not_true_eq_false, not_false_eq_true, false_implies, true_implies, implies_true, h0, mI_le (show n < 2147483648 by omega) (show k < 2147483648 by omega), hc, rI_o h1, mI_nat (show k < 2147483648 by omega), mI_succ]
      refine ⟨vp_nI (by omega) (by omega), fun hm => ?_, fun hm => ?_⟩
      · simpa only [cntM, if_pos hm] using hi
      · simpa only [cntM, if_neg hm] using hi
  exact loop n 0 (by omega)
