/-! 20: the lots of a plan -/
abbrev LA : Type := Nat × (Nat → Int32) × (Nat → Int32) × (Nat → Int32)
def IsLots (h : bkHS) (a : Nat) (L : LA) : Prop := h a = some (eO 3 [.ref (a + 1), .ref (a + 2), .ref (a + 3), .int (nI L.1)]) ∧ h (a + 1) = some (eI 30 L.2.1) ∧ h (a + 2) = some (eI 30 L.2.2.1) ∧ h (a + 3) = some (eI 30 L.2.2.2)
theorem IsLots.same {h h' : bkHS} {a : Nat} {L : LA} (hL : IsLots h a L) (hs : ∀ q, a ≤ q → q < a + 4 → h' q = h q) : IsLots h' a L :=
  ⟨(hs a (by omega) (by omega)).trans hL.1, (hs _ (by omega) (by omega)).trans hL.2.1, (hs _ (by omega) (by omega)).trans hL.2.2.1, (hs _ (by omega) (by omega)).trans hL.2.2.2⟩
def cntM (f : Nat → Int32) (m : Int32) : Nat → Nat
  | 0 => 0
  | k + 1 => if f k = m then cntM f m k + 1 else cntM f m k
theorem cntM_le (f : Nat → Int32) (m : Int32) : ∀ k, cntM f m k ≤ k := by
  intro k
  induction k with
  | zero => exact Nat.le_refl 0
  | succ k ih => unfold cntM; split <;> omega
def sumM (f g : Nat → Int32) (m : Int32) : Nat → Int32
  | 0 => 0
  | k + 1 => if f k = m then sumM f g m k + g k else sumM f g m k
def wrthM (f g : Nat → Int32) : Nat → Int64
  | 0 => 0
  | k + 1 => wrthM f g k + (f k).toInt64 * (g k).toInt64
/-- the slot of the i-th lot of material m among k slots -/
def slotM (f : Nat → Int32) (m i : Int32) : Nat → Nat → Int32
  | _, 0 => -1
  | k, d + 1 => if f k = m then (if nI (cntM f m k) = i then nI k else slotM f m i (k + 1) d) else slotM f m i (k + 1) d
theorem c_countOf {G : bkG} {h : bkHS} {a : Nat} {L : LA} {m : Int32} (hL : IsLots h a L) (hn : L.1 ≤ 30) {Post : bkPo} (hP : Post (.inl (some (.int (nI (cntM L.2.1 m L.1))))) h none) : CM G gX3_countOf [.ref a, .int m] h none Post := by
  obtain ⟨n, f1, f2, f3⟩ := L
  obtain ⟨h0, h1, h2, h3⟩ := hL
  dsimp only at h0 h1 h2 h3 hn hP
  refine meth (lv := [some (.ref a), some (.int m), none, none]) ok_gX3_countOf (by decide) rfl (Nat.le_of_ble_eq_true rfl) rfl ?_
  simp only [r_X3_countOf_0, r_X3_countOf_1, r_X3_countOf_2, r_X3_countOf_3, fGet_0, fGet_1, fGet_2, fGet_3, fGet_4, fGet_5, fGet_6, fGet_7, fGet_8, fGet_9, fGet_10, fGet_11, fGet_12, fGet_13, fGet_14, fGet_15, fGet_16, fGet_17, fGet_18, fOk_0, fOk_1, fOk_2, fOk_3, fOk_4, fOk_5, fOk_6, fOk_7, fOk_8, fOk_9, fOk_10, fOk_11, fOk_12, fOk_13, fOk_14, fOk_15, fOk_16, fOk_17, fOk_18, fSet_0, fSet_1, fSet_2, fSet_3, fSet_4, fSet_5, fSet_6, fSet_7, fSet_8, fSet_9, fSet_10, fSet_11, fSet_12, fSet_13, fSet_14, fSet_15, fSet_16, fSet_17, fSet_18, bkIs_e, rIw_o, rL_o, rC_o, rD_o, rQ_o, bkIn_o, bkEl_o, bkUp_o, cats_n, cats_i, cats_r, cats_l, cats_d, kl_i, kl_r, kl_n, kl_l, kl_d, rI_w, ok_b0, ok_b1, ile_0_1, ile_1_0, true_or, or_true, bkK_v, bkK_0, wr_q, Nat.add_eq_left, Nat.left_eq_add, Nat.add_left_cancel_iff, Nat.reduceEqDiff, reduceIte, Nat.reduceEqDiff, nz_1, nz_2, nz_3, nz_4, nz_5, nz_6, nz_7, nz_8, nz_9, nz_10, nz_11, nz_12, true_and, and_true, Nat.reduceAdd, Nat.zero_add, Nat.add_zero, Nat.le_refl, Nat.reduceLeDiff, Nat.zero_le, not_true_eq_false, not_false_eq_true, false_implies, true_implies, implies_true, bkK_x (M := gX3_countOf) rfl, show mC gX3_countOf = 0 from rfl, show mS gX3_countOf = 0 from rfl]
  have loop : ∀ d k, k + d = n → wp G gX3_countOf Post 4 [some (.ref a), some (.int m), some (.int (nI (cntM f1 m k))), some (.int (nI k))] [] h none 0 0 := by
    intro d
    induction d with
    | zero =>
      intro k hk
      have hk : k = n := by omega
      subst hk
      simp only [r_X3_countOf_0, r_X3_countOf_1, r_X3_countOf_2, r_X3_countOf_3, r_X3_countOf_4, r_X3_countOf_5, r_X3_countOf_6, r_X3_countOf_9, r_X3_countOf_13, r_X3_countOf_16, r_X3_countOf_17, r_X3_countOf_18, r_X3_countOf_19, r_X3_countOf_22, r_X3_countOf_25, r_X3_countOf_28, r_X3_countOf_31, r_X3_countOf_32, fGet_0, fGet_1, fGet_2, fGet_3, fGet_4, fGet_5, fGet_6, fGet_7, fGet_8, fGet_9, fGet_10, fGet_11, fGet_12, fGet_13, fGet_14, fGet_15, fGet_16, fGet_17, fGet_18, fOk_0, fOk_1, fOk_2, fOk_3, fOk_4, fOk_5, fOk_6, fOk_7, fOk_8, fOk_9, fOk_10, fOk_11, fOk_12, fOk_13, fOk_14, fOk_15, fOk_16, fOk_17, fOk_18, fSet_0, fSet_1, fSet_2, fSet_3, fSet_4, fSet_5, fSet_6, fSet_7, fSet_8, fSet_9, fSet_10, fSet_11, fSet_12, fSet_13, fSet_14, fSet_15, fSet_16, fSet_17, fSet_18, bkIs_e, rIw_o, rL_o, rC_o, rD_o, rQ_o, bkIn_o, bkEl_o, bkUp_o, cats_n, cats_i, cats_r, cats_l, cats_d, kl_i, kl_r, kl_n, kl_l, kl_d, rI_w, ok_b0, ok_b1, ile_0_1, ile_1_0, true_or, or_true, bkK_v, bkK_0, wr_q, Nat.add_eq_left, Nat.left_eq_add, Nat.add_left_cancel_iff, Nat.reduceEqDiff, reduceIte, Nat.reduceEqDiff, nz_1, nz_2, nz_3, nz_4, nz_5, nz_6, nz_7, nz_8, nz_9, nz_10, nz_11, nz_12, true_and, and_true, Nat.reduceAdd, Nat.zero_add, Nat.add_zero, Nat.le_refl, Nat.reduceLeDiff, Nat.zero_le, not_true_eq_false, not_false_eq_true, false_implies, true_implies, implies_true, h0, mI_le (show k < 2147483648 by omega) (show k < 2147483648 by omega), bkK_x (M := gX3_countOf) rfl, show mC gX3_countOf = 0 from rfl, show mS gX3_countOf = 0 from rfl]
      exact hP
    | succ d ih =>
      intro k hk
      have hc : ¬ n ≤ k := by omega
      have hi := ih (k + 1) (by omega)
      rw [r_X3_countOf_4]
      simp only [r_X3_countOf_0, r_X3_countOf_1, r_X3_countOf_2, r_X3_countOf_3, r_X3_countOf_5, r_X3_countOf_6, r_X3_countOf_9, r_X3_countOf_12, r_X3_countOf_13, r_X3_countOf_16, r_X3_countOf_17, r_X3_countOf_18, r_X3_countOf_19, r_X3_countOf_22, r_X3_countOf_25, r_X3_countOf_28, r_X3_countOf_31, r_X3_countOf_32, fGet_0, fGet_1, fGet_2, fGet_3, fGet_4, fGet_5, fGet_6, fGet_7, fGet_8, fGet_9, fGet_10, fGet_11, fGet_12, fGet_13, fGet_14, fGet_15, fGet_16, fGet_17, fGet_18, fOk_0, fOk_1, fOk_2, fOk_3, fOk_4, fOk_5, fOk_6, fOk_7, fOk_8, fOk_9, fOk_10, fOk_11, fOk_12, fOk_13, fOk_14, fOk_15, fOk_16, fOk_17, fOk_18, fSet_0, fSet_1, fSet_2, fSet_3, fSet_4, fSet_5, fSet_6, fSet_7, fSet_8, fSet_9, fSet_10, fSet_11, fSet_12, fSet_13, fSet_14, fSet_15, fSet_16, fSet_17, fSet_18, bkIs_e, rIw_o, rL_o, rC_o, rD_o, rQ_o, bkIn_o, bkEl_o, bkUp_o, cats_n, cats_i, cats_r, cats_l, cats_d, kl_i, kl_r, kl_n, kl_l, kl_d, rI_w, ok_b0, ok_b1, ile_0_1, ile_1_0, true_or, or_true, bkK_v, bkK_0, wr_q, Nat.add_eq_left, Nat.left_eq_add, Nat.add_left_cancel_iff, Nat.reduceEqDiff, reduceIte, Nat.reduceEqDiff, nz_1, nz_2, nz_3, nz_4, nz_5, nz_6, nz_7, nz_8, nz_9, nz_10, nz_11, nz_12, true_and, and_true, Nat.reduceAdd, Nat.zero_add, Nat.add_zero, Nat.le_refl, Nat.reduceLeDiff, Nat.zero_le, not_true_eq_false, not_false_eq_true, false_implies, true_implies, implies_true, h0, mI_le (show n < 2147483648 by omega) (show k < 2147483648 by omega), hc, rI_o h1, mI_nat (show k < 2147483648 by omega), mI_succ, bkK_x (M := gX3_countOf) rfl, show mC gX3_countOf = 0 from rfl, show mS gX3_countOf = 0 from rfl]
      refine ⟨vp_nI (by omega) (by omega), fun hm => ?_, fun hm => ?_⟩
      · simpa only [cntM, if_pos hm] using hi
      · simpa only [cntM, if_neg hm] using hi
  exact loop n 0 (by omega)
theorem c_unitsOf {G : bkG} {h : bkHS} {a : Nat} {L : LA} {m : Int32} (hL : IsLots h a L) (hn : L.1 ≤ 30) {Post : bkPo} (hP : Post (.inl (some (.int (sumM L.2.1 L.2.2.1 m L.1)))) h none) : CM G gX3_unitsOf [.ref a, .int m] h none Post := by
  obtain ⟨n, f1, f2, f3⟩ := L
  obtain ⟨h0, h1, h2, h3⟩ := hL
  dsimp only at h0 h1 h2 h3 hn hP
  refine meth (lv := [some (.ref a), some (.int m), none, none]) ok_gX3_unitsOf (by decide) rfl (Nat.le_of_ble_eq_true rfl) rfl ?_
  simp only [r_X3_unitsOf_0, r_X3_unitsOf_1, r_X3_unitsOf_2, r_X3_unitsOf_3, fGet_0, fGet_1, fGet_2, fGet_3, fGet_4, fGet_5, fGet_6, fGet_7, fGet_8, fGet_9, fGet_10, fGet_11, fGet_12, fGet_13, fGet_14, fGet_15, fGet_16, fGet_17, fGet_18, fOk_0, fOk_1, fOk_2, fOk_3, fOk_4, fOk_5, fOk_6, fOk_7, fOk_8, fOk_9, fOk_10, fOk_11, fOk_12, fOk_13, fOk_14, fOk_15, fOk_16, fOk_17, fOk_18, fSet_0, fSet_1, fSet_2, fSet_3, fSet_4, fSet_5, fSet_6, fSet_7, fSet_8, fSet_9, fSet_10, fSet_11, fSet_12, fSet_13, fSet_14, fSet_15, fSet_16, fSet_17, fSet_18, bkIs_e, rIw_o, rL_o, rC_o, rD_o, rQ_o, bkIn_o, bkEl_o, bkUp_o, cats_n, cats_i, cats_r, cats_l, cats_d, kl_i, kl_r, kl_n, kl_l, kl_d, rI_w, ok_b0, ok_b1, ile_0_1, ile_1_0, true_or, or_true, bkK_v, bkK_0, wr_q, Nat.add_eq_left, Nat.left_eq_add, Nat.add_left_cancel_iff, Nat.reduceEqDiff, reduceIte, Nat.reduceEqDiff, nz_1, nz_2, nz_3, nz_4, nz_5, nz_6, nz_7, nz_8, nz_9, nz_10, nz_11, nz_12, true_and, and_true, Nat.reduceAdd, Nat.zero_add, Nat.add_zero, Nat.le_refl, Nat.reduceLeDiff, Nat.zero_le, not_true_eq_false, not_false_eq_true, false_implies, true_implies, implies_true, bkK_x (M := gX3_unitsOf) rfl, show mC gX3_unitsOf = 0 from rfl, show mS gX3_unitsOf = 0 from rfl]
  have loop : ∀ d k, k + d = n → wp G gX3_unitsOf Post 4 [some (.ref a), some (.int m), some (.int (sumM f1 f2 m k)), some (.int (nI k))] [] h none 0 0 := by
    intro d
    induction d with
    | zero =>
      intro k hk
      have hk : k = n := by omega
      subst hk
      simp only [r_X3_unitsOf_0, r_X3_unitsOf_1, r_X3_unitsOf_2, r_X3_unitsOf_3, r_X3_unitsOf_4, r_X3_unitsOf_5, r_X3_unitsOf_6, r_X3_unitsOf_9, r_X3_unitsOf_13, r_X3_unitsOf_16, r_X3_unitsOf_17, r_X3_unitsOf_18, r_X3_unitsOf_19, r_X3_unitsOf_22, r_X3_unitsOf_23, r_X3_unitsOf_24, r_X3_unitsOf_27, r_X3_unitsOf_28, r_X3_unitsOf_29, r_X3_unitsOf_30, r_X3_unitsOf_31, r_X3_unitsOf_34, r_X3_unitsOf_37, r_X3_unitsOf_38, fGet_0, fGet_1, fGet_2, fGet_3, fGet_4, fGet_5, fGet_6, fGet_7, fGet_8, fGet_9, fGet_10, fGet_11, fGet_12, fGet_13, fGet_14, fGet_15, fGet_16, fGet_17, fGet_18, fOk_0, fOk_1, fOk_2, fOk_3, fOk_4, fOk_5, fOk_6, fOk_7, fOk_8, fOk_9, fOk_10, fOk_11, fOk_12, fOk_13, fOk_14, fOk_15, fOk_16, fOk_17, fOk_18, fSet_0, fSet_1, fSet_2, fSet_3, fSet_4, fSet_5, fSet_6, fSet_7, fSet_8, fSet_9, fSet_10, fSet_11, fSet_12, fSet_13, fSet_14, fSet_15, fSet_16, fSet_17, fSet_18, bkIs_e, rIw_o, rL_o, rC_o, rD_o, rQ_o, bkIn_o, bkEl_o, bkUp_o, cats_n, cats_i, cats_r, cats_l, cats_d, kl_i, kl_r, kl_n, kl_l, kl_d, rI_w, ok_b0, ok_b1, ile_0_1, ile_1_0, true_or, or_true, bkK_v, bkK_0, wr_q, Nat.add_eq_left, Nat.left_eq_add, Nat.add_left_cancel_iff, Nat.reduceEqDiff, reduceIte, Nat.reduceEqDiff, nz_1, nz_2, nz_3, nz_4, nz_5, nz_6, nz_7, nz_8, nz_9, nz_10, nz_11, nz_12, true_and, and_true, Nat.reduceAdd, Nat.zero_add, Nat.add_zero, Nat.le_refl, Nat.reduceLeDiff, Nat.zero_le, not_true_eq_false, not_false_eq_true, false_implies, true_implies, implies_true, h0, mI_le (show k < 2147483648 by omega) (show k < 2147483648 by omega), bkK_x (M := gX3_unitsOf) rfl, show mC gX3_unitsOf = 0 from rfl, show mS gX3_unitsOf = 0 from rfl]
      exact hP
    | succ d ih =>
      intro k hk
      have hc : ¬ n ≤ k := by omega
      have hi := ih (k + 1) (by omega)
      have hv : vp_in (nI k) 30 := vp_nI (by omega) (by omega)
      rw [r_X3_unitsOf_4]
      simp only [r_X3_unitsOf_0, r_X3_unitsOf_1, r_X3_unitsOf_2, r_X3_unitsOf_3, r_X3_unitsOf_5, r_X3_unitsOf_6, r_X3_unitsOf_9, r_X3_unitsOf_12, r_X3_unitsOf_13, r_X3_unitsOf_16, r_X3_unitsOf_17, r_X3_unitsOf_18, r_X3_unitsOf_19, r_X3_unitsOf_22, r_X3_unitsOf_23, r_X3_unitsOf_24, r_X3_unitsOf_27, r_X3_unitsOf_28, r_X3_unitsOf_29, r_X3_unitsOf_30, r_X3_unitsOf_31, r_X3_unitsOf_34, r_X3_unitsOf_37, r_X3_unitsOf_38, fGet_0, fGet_1, fGet_2, fGet_3, fGet_4, fGet_5, fGet_6, fGet_7, fGet_8, fGet_9, fGet_10, fGet_11, fGet_12, fGet_13, fGet_14, fGet_15, fGet_16, fGet_17, fGet_18, fOk_0, fOk_1, fOk_2, fOk_3, fOk_4, fOk_5, fOk_6, fOk_7, fOk_8, fOk_9, fOk_10, fOk_11, fOk_12, fOk_13, fOk_14, fOk_15, fOk_16, fOk_17, fOk_18, fSet_0, fSet_1, fSet_2, fSet_3, fSet_4, fSet_5, fSet_6, fSet_7, fSet_8, fSet_9, fSet_10, fSet_11, fSet_12, fSet_13, fSet_14, fSet_15, fSet_16, fSet_17, fSet_18, bkIs_e, rIw_o, rL_o, rC_o, rD_o, rQ_o, bkIn_o, bkEl_o, bkUp_o, cats_n, cats_i, cats_r, cats_l, cats_d, kl_i, kl_r, kl_n, kl_l, kl_d, rI_w, ok_b0, ok_b1, ile_0_1, ile_1_0, true_or, or_true, bkK_v, bkK_0, wr_q, Nat.add_eq_left, Nat.left_eq_add, Nat.add_left_cancel_iff, Nat.reduceEqDiff, reduceIte, Nat.reduceEqDiff, nz_1, nz_2, nz_3, nz_4, nz_5, nz_6, nz_7, nz_8, nz_9, nz_10, nz_11, nz_12, true_and, and_true, Nat.reduceAdd, Nat.zero_add, Nat.add_zero, Nat.le_refl, Nat.reduceLeDiff, Nat.zero_le, not_true_eq_false, not_false_eq_true, false_implies, true_implies, implies_true, h0, mI_le (show n < 2147483648 by omega) (show k < 2147483648 by omega), hc, rI_o h1, rI_o h2, mI_nat (show k < 2147483648 by omega), mI_succ, hv, bkK_x (M := gX3_unitsOf) rfl, show mC gX3_unitsOf = 0 from rfl, show mS gX3_unitsOf = 0 from rfl]
      refine ⟨fun hm => ?_, fun hm => ?_⟩
      · simpa only [sumM, if_pos hm] using hi
      · simpa only [sumM, if_neg hm] using hi
  exact loop n 0 (by omega)
theorem c_worth {G : bkG} {h : bkHS} {a : Nat} {L : LA} (hL : IsLots h a L) (hn : L.1 ≤ 30) {Post : bkPo} (hP : Post (.inl (some (.long (wrthM L.2.2.1 L.2.2.2 L.1)))) h none) : CM G gX3_worth [.ref a] h none Post := by
  obtain ⟨n, f1, f2, f3⟩ := L
  obtain ⟨h0, h1, h2, h3⟩ := hL
  dsimp only at h0 h1 h2 h3 hn hP
  refine meth (lv := [some (.ref a), none, none, none]) ok_gX3_worth (by decide) rfl (Nat.le_of_ble_eq_true rfl) rfl ?_
  simp only [r_X3_worth_0, r_X3_worth_1, r_X3_worth_2, r_X3_worth_3, fGet_0, fGet_1, fGet_2, fGet_3, fGet_4, fGet_5, fGet_6, fGet_7, fGet_8, fGet_9, fGet_10, fGet_11, fGet_12, fGet_13, fGet_14, fGet_15, fGet_16, fGet_17, fGet_18, fOk_0, fOk_1, fOk_2, fOk_3, fOk_4, fOk_5, fOk_6, fOk_7, fOk_8, fOk_9, fOk_10, fOk_11, fOk_12, fOk_13, fOk_14, fOk_15, fOk_16, fOk_17, fOk_18, fSet_0, fSet_1, fSet_2, fSet_3, fSet_4, fSet_5, fSet_6, fSet_7, fSet_8, fSet_9, fSet_10, fSet_11, fSet_12, fSet_13, fSet_14, fSet_15, fSet_16, fSet_17, fSet_18, bkIs_e, rIw_o, rL_o, rC_o, rD_o, rQ_o, bkIn_o, bkEl_o, bkUp_o, cats_n, cats_i, cats_r, cats_l, cats_d, kl_i, kl_r, kl_n, kl_l, kl_d, rI_w, ok_b0, ok_b1, ile_0_1, ile_1_0, true_or, or_true, bkK_v, bkK_0, wr_q, Nat.add_eq_left, Nat.left_eq_add, Nat.add_left_cancel_iff, Nat.reduceEqDiff, reduceIte, Nat.reduceEqDiff, nz_1, nz_2, nz_3, nz_4, nz_5, nz_6, nz_7, nz_8, nz_9, nz_10, nz_11, nz_12, true_and, and_true, Nat.reduceAdd, Nat.zero_add, Nat.add_zero, Nat.le_refl, Nat.reduceLeDiff, Nat.zero_le, not_true_eq_false, not_false_eq_true, false_implies, true_implies, implies_true, bkK_x (M := gX3_worth) rfl, show mC gX3_worth = 0 from rfl, show mS gX3_worth = 0 from rfl]
  have loop : ∀ d k, k + d = n → wp G gX3_worth Post 4 [some (.ref a), some (.long (wrthM f2 f3 k)), none, some (.int (nI k))] [] h none 0 0 := by
    intro d
    induction d with
    | zero =>
      intro k hk
      have hk : k = n := by omega
      subst hk
      simp only [r_X3_worth_0, r_X3_worth_1, r_X3_worth_2, r_X3_worth_3, r_X3_worth_4, r_X3_worth_5, r_X3_worth_6, r_X3_worth_9, r_X3_worth_13, r_X3_worth_14, r_X3_worth_17, r_X3_worth_18, r_X3_worth_19, r_X3_worth_20, r_X3_worth_21, r_X3_worth_24, r_X3_worth_25, r_X3_worth_26, r_X3_worth_27, r_X3_worth_28, r_X3_worth_29, r_X3_worth_30, r_X3_worth_33, r_X3_worth_36, r_X3_worth_37, fGet_0, fGet_1, fGet_2, fGet_3, fGet_4, fGet_5, fGet_6, fGet_7, fGet_8, fGet_9, fGet_10, fGet_11, fGet_12, fGet_13, fGet_14, fGet_15, fGet_16, fGet_17, fGet_18, fOk_0, fOk_1, fOk_2, fOk_3, fOk_4, fOk_5, fOk_6, fOk_7, fOk_8, fOk_9, fOk_10, fOk_11, fOk_12, fOk_13, fOk_14, fOk_15, fOk_16, fOk_17, fOk_18, fSet_0, fSet_1, fSet_2, fSet_3, fSet_4, fSet_5, fSet_6, fSet_7, fSet_8, fSet_9, fSet_10, fSet_11, fSet_12, fSet_13, fSet_14, fSet_15, fSet_16, fSet_17, fSet_18, bkIs_e, rIw_o, rL_o, rC_o, rD_o, rQ_o, bkIn_o, bkEl_o, bkUp_o, cats_n, cats_i, cats_r, cats_l, cats_d, kl_i, kl_r, kl_n, kl_l, kl_d, rI_w, ok_b0, ok_b1, ile_0_1, ile_1_0, true_or, or_true, bkK_v, bkK_0, wr_q, Nat.add_eq_left, Nat.left_eq_add, Nat.add_left_cancel_iff, Nat.reduceEqDiff, reduceIte, Nat.reduceEqDiff, nz_1, nz_2, nz_3, nz_4, nz_5, nz_6, nz_7, nz_8, nz_9, nz_10, nz_11, nz_12, true_and, and_true, Nat.reduceAdd, Nat.zero_add, Nat.add_zero, Nat.le_refl, Nat.reduceLeDiff, Nat.zero_le, not_true_eq_false, not_false_eq_true, false_implies, true_implies, implies_true, h0, mI_le (show k < 2147483648 by omega) (show k < 2147483648 by omega), bkK_x (M := gX3_worth) rfl, show mC gX3_worth = 0 from rfl, show mS gX3_worth = 0 from rfl]
      exact hP
    | succ d ih =>
      intro k hk
      have hc : ¬ n ≤ k := by omega
      have hi := ih (k + 1) (by omega)
      have hv : vp_in (nI k) 30 := vp_nI (by omega) (by omega)
      rw [r_X3_worth_4]
      simp only [r_X3_worth_0, r_X3_worth_1, r_X3_worth_2, r_X3_worth_3, r_X3_worth_5, r_X3_worth_6, r_X3_worth_9, r_X3_worth_12, r_X3_worth_13, r_X3_worth_14, r_X3_worth_17, r_X3_worth_18, r_X3_worth_19, r_X3_worth_20, r_X3_worth_21, r_X3_worth_24, r_X3_worth_25, r_X3_worth_26, r_X3_worth_27, r_X3_worth_28, r_X3_worth_29, r_X3_worth_30, r_X3_worth_33, r_X3_worth_36, r_X3_worth_37, fGet_0, fGet_1, fGet_2, fGet_3, fGet_4, fGet_5, fGet_6, fGet_7, fGet_8, fGet_9, fGet_10, fGet_11, fGet_12, fGet_13, fGet_14, fGet_15, fGet_16, fGet_17, fGet_18, fOk_0, fOk_1, fOk_2, fOk_3, fOk_4, fOk_5, fOk_6, fOk_7, fOk_8, fOk_9, fOk_10, fOk_11, fOk_12, fOk_13, fOk_14, fOk_15, fOk_16, fOk_17, fOk_18, fSet_0, fSet_1, fSet_2, fSet_3, fSet_4, fSet_5, fSet_6, fSet_7, fSet_8, fSet_9, fSet_10, fSet_11, fSet_12, fSet_13, fSet_14, fSet_15, fSet_16, fSet_17, fSet_18, bkIs_e, rIw_o, rL_o, rC_o, rD_o, rQ_o, bkIn_o, bkEl_o, bkUp_o, cats_n, cats_i, cats_r, cats_l, cats_d, kl_i, kl_r, kl_n, kl_l, kl_d, rI_w, ok_b0, ok_b1, ile_0_1, ile_1_0, true_or, or_true, bkK_v, bkK_0, wr_q, Nat.add_eq_left, Nat.left_eq_add, Nat.add_left_cancel_iff, Nat.reduceEqDiff, reduceIte, Nat.reduceEqDiff, nz_1, nz_2, nz_3, nz_4, nz_5, nz_6, nz_7, nz_8, nz_9, nz_10, nz_11, nz_12, true_and, and_true, Nat.reduceAdd, Nat.zero_add, Nat.add_zero, Nat.le_refl, Nat.reduceLeDiff, Nat.zero_le, not_true_eq_false, not_false_eq_true, false_implies, true_implies, implies_true, h0, mI_le (show n < 2147483648 by omega) (show k < 2147483648 by omega), hc, rI_o h2, rI_o h3, mI_nat (show k < 2147483648 by omega), mI_succ, hv, bkK_x (M := gX3_worth) rfl, show mC gX3_worth = 0 from rfl, show mS gX3_worth = 0 from rfl]
      exact hi
  exact loop n 0 (by omega)
theorem c_slotOf {G : bkG} {h : bkHS} {a : Nat} {L : LA} {m i : Int32} (hL : IsLots h a L) (hn : L.1 ≤ 30) {Post : bkPo} (hP : Post (.inl (some (.int (slotM L.2.1 m i 0 L.1)))) h none) : CM G gX3_slotOf [.ref a, .int m, .int i] h none Post := by
  obtain ⟨n, f1, f2, f3⟩ := L
  obtain ⟨h0, h1, h2, h3⟩ := hL
  dsimp only at h0 h1 h2 h3 hn hP
  refine meth (lv := [some (.ref a), some (.int m), some (.int i), none, none]) ok_gX3_slotOf (by decide) rfl (Nat.le_of_ble_eq_true rfl) rfl ?_
  simp only [r_X3_slotOf_0, r_X3_slotOf_1, r_X3_slotOf_2, r_X3_slotOf_3, fGet_0, fGet_1, fGet_2, fGet_3, fGet_4, fGet_5, fGet_6, fGet_7, fGet_8, fGet_9, fGet_10, fGet_11, fGet_12, fGet_13, fGet_14, fGet_15, fGet_16, fGet_17, fGet_18, fOk_0, fOk_1, fOk_2, fOk_3, fOk_4, fOk_5, fOk_6, fOk_7, fOk_8, fOk_9, fOk_10, fOk_11, fOk_12, fOk_13, fOk_14, fOk_15, fOk_16, fOk_17, fOk_18, fSet_0, fSet_1, fSet_2, fSet_3, fSet_4, fSet_5, fSet_6, fSet_7, fSet_8, fSet_9, fSet_10, fSet_11, fSet_12, fSet_13, fSet_14, fSet_15, fSet_16, fSet_17, fSet_18, bkIs_e, rIw_o, rL_o, rC_o, rD_o, rQ_o, bkIn_o, bkEl_o, bkUp_o, cats_n, cats_i, cats_r, cats_l, cats_d, kl_i, kl_r, kl_n, kl_l, kl_d, rI_w, ok_b0, ok_b1, ile_0_1, ile_1_0, true_or, or_true, bkK_v, bkK_0, wr_q, Nat.add_eq_left, Nat.left_eq_add, Nat.add_left_cancel_iff, Nat.reduceEqDiff, reduceIte, Nat.reduceEqDiff, nz_1, nz_2, nz_3, nz_4, nz_5, nz_6, nz_7, nz_8, nz_9, nz_10, nz_11, nz_12, true_and, and_true, Nat.reduceAdd, Nat.zero_add, Nat.add_zero, Nat.le_refl, Nat.reduceLeDiff, Nat.zero_le, not_true_eq_false, not_false_eq_true, false_implies, true_implies, implies_true, bkK_x (M := gX3_slotOf) rfl, show mC gX3_slotOf = 0 from rfl, show mS gX3_slotOf = 0 from rfl]
  have loop : ∀ d k, k + d = n → slotM f1 m i 0 n = slotM f1 m i k d → wp G gX3_slotOf Post 5 [some (.ref a), some (.int m), some (.int i), some (.int (nI (cntM f1 m k))), some (.int (nI k))] [] h none 0 0 := by
    intro d
    induction d with
    | zero =>
      intro k hk hq
      have hk : k = n := by omega
      subst hk
      simp only [r_X3_slotOf_0, r_X3_slotOf_1, r_X3_slotOf_2, r_X3_slotOf_3, r_X3_slotOf_5, r_X3_slotOf_7, r_X3_slotOf_8, r_X3_slotOf_11, r_X3_slotOf_15, r_X3_slotOf_18, r_X3_slotOf_20, r_X3_slotOf_21, r_X3_slotOf_22, r_X3_slotOf_25, r_X3_slotOf_26, r_X3_slotOf_27, r_X3_slotOf_30, r_X3_slotOf_32, r_X3_slotOf_33, r_X3_slotOf_36, r_X3_slotOf_39, r_X3_slotOf_42, r_X3_slotOf_43, fGet_0, fGet_1, fGet_2, fGet_3, fGet_4, fGet_5, fGet_6, fGet_7, fGet_8, fGet_9, fGet_10, fGet_11, fGet_12, fGet_13, fGet_14, fGet_15, fGet_16, fGet_17, fGet_18, fOk_0, fOk_1, fOk_2, fOk_3, fOk_4, fOk_5, fOk_6, fOk_7, fOk_8, fOk_9, fOk_10, fOk_11, fOk_12, fOk_13, fOk_14, fOk_15, fOk_16, fOk_17, fOk_18, fSet_0, fSet_1, fSet_2, fSet_3, fSet_4, fSet_5, fSet_6, fSet_7, fSet_8, fSet_9, fSet_10, fSet_11, fSet_12, fSet_13, fSet_14, fSet_15, fSet_16, fSet_17, fSet_18, bkIs_e, rIw_o, rL_o, rC_o, rD_o, rQ_o, bkIn_o, bkEl_o, bkUp_o, cats_n, cats_i, cats_r, cats_l, cats_d, kl_i, kl_r, kl_n, kl_l, kl_d, rI_w, ok_b0, ok_b1, ile_0_1, ile_1_0, true_or, or_true, bkK_v, bkK_0, wr_q, Nat.add_eq_left, Nat.left_eq_add, Nat.add_left_cancel_iff, Nat.reduceEqDiff, reduceIte, Nat.reduceEqDiff, nz_1, nz_2, nz_3, nz_4, nz_5, nz_6, nz_7, nz_8, nz_9, nz_10, nz_11, nz_12, true_and, and_true, Nat.reduceAdd, Nat.zero_add, Nat.add_zero, Nat.le_refl, Nat.reduceLeDiff, Nat.zero_le, not_true_eq_false, not_false_eq_true, false_implies, true_implies, implies_true, h0, mI_le (show k < 2147483648 by omega) (show k < 2147483648 by omega), bkK_x (M := gX3_slotOf) rfl, show mC gX3_slotOf = 0 from rfl, show mS gX3_slotOf = 0 from rfl]
      rw [hq] at hP
      exact hP
    | succ d ih =>
      intro k hk hq
      have hc : ¬ n ≤ k := by omega
      have hv : vp_in (nI k) 30 := vp_nI (by omega) (by omega)
      have hi := ih (k + 1) (by omega)
      rw [r_X3_slotOf_5]
      simp only [r_X3_slotOf_0, r_X3_slotOf_1, r_X3_slotOf_2, r_X3_slotOf_3, r_X3_slotOf_7, r_X3_slotOf_8, r_X3_slotOf_11, r_X3_slotOf_14, r_X3_slotOf_15, r_X3_slotOf_18, r_X3_slotOf_20, r_X3_slotOf_21, r_X3_slotOf_22, r_X3_slotOf_25, r_X3_slotOf_26, r_X3_slotOf_27, r_X3_slotOf_30, r_X3_slotOf_32, r_X3_slotOf_33, r_X3_slotOf_36, r_X3_slotOf_39, r_X3_slotOf_42, r_X3_slotOf_43, fGet_0, fGet_1, fGet_2, fGet_3, fGet_4, fGet_5, fGet_6, fGet_7, fGet_8, fGet_9, fGet_10, fGet_11, fGet_12, fGet_13, fGet_14, fGet_15, fGet_16, fGet_17, fGet_18, fOk_0, fOk_1, fOk_2, fOk_3, fOk_4, fOk_5, fOk_6, fOk_7, fOk_8, fOk_9, fOk_10, fOk_11, fOk_12, fOk_13, fOk_14, fOk_15, fOk_16, fOk_17, fOk_18, fSet_0, fSet_1, fSet_2, fSet_3, fSet_4, fSet_5, fSet_6, fSet_7, fSet_8, fSet_9, fSet_10, fSet_11, fSet_12, fSet_13, fSet_14, fSet_15, fSet_16, fSet_17, fSet_18, bkIs_e, rIw_o, rL_o, rC_o, rD_o, rQ_o, bkIn_o, bkEl_o, bkUp_o, cats_n, cats_i, cats_r, cats_l, cats_d, kl_i, kl_r, kl_n, kl_l, kl_d, rI_w, ok_b0, ok_b1, ile_0_1, ile_1_0, true_or, or_true, bkK_v, bkK_0, wr_q, Nat.add_eq_left, Nat.left_eq_add, Nat.add_left_cancel_iff, Nat.reduceEqDiff, reduceIte, Nat.reduceEqDiff, nz_1, nz_2, nz_3, nz_4, nz_5, nz_6, nz_7, nz_8, nz_9, nz_10, nz_11, nz_12, true_and, and_true, Nat.reduceAdd, Nat.zero_add, Nat.add_zero, Nat.le_refl, Nat.reduceLeDiff, Nat.zero_le, not_true_eq_false, not_false_eq_true, false_implies, true_implies, implies_true, h0, mI_le (show n < 2147483648 by omega) (show k < 2147483648 by omega), hc, rI_o h1, mI_nat (show k < 2147483648 by omega), mI_succ, hv, bkK_x (M := gX3_slotOf) rfl, show mC gX3_slotOf = 0 from rfl, show mS gX3_slotOf = 0 from rfl]
      have hq2 : slotM f1 m i k (d + 1) = (if f1 k = m then (if nI (cntM f1 m k) = i then nI k else slotM f1 m i (k + 1) d) else slotM f1 m i (k + 1) d) := rfl
      rw [hq2] at hq
      refine ⟨fun hm => ⟨fun hi2 => ?_, fun hi2 => ?_⟩, fun hm => ?_⟩
      · rw [if_pos hm, if_pos hi2] at hq
        rw [hq] at hP
        exact hP
      · rw [if_pos hm, if_neg hi2] at hq
        have hi := hi hq
        simpa only [cntM, if_pos hm] using hi
      · rw [if_neg hm] at hq
        have hi := hi hq
        simpa only [cntM, if_neg hm] using hi
  exact loop n 0 (by omega) rfl
theorem c_lotsPut {G : bkG} {h : bkHS} {a : Nat} {L : LA} {m u p : Int32} (hL : IsLots h a L) (hn : L.1 < 30) {Post : bkPo}
    (hP : ∀ h', IsLots h' a (L.1 + 1, va_up L.2.1 L.1 m, va_up L.2.2.1 L.1 u, va_up L.2.2.2 L.1 p) → Same h h' a 4 → Post (.inl none) h' none) : CM G gX3_put [.ref a, .int m, .int u, .int p] h none Post := by
  obtain ⟨n, f1, f2, f3⟩ := L
  obtain ⟨h0, h1, h2, h3⟩ := hL
  dsimp only at h0 h1 h2 h3 hn hP
  have hc : ¬ (30 : Int32) ≤ nI n := by rw [show (30 : Int32) = nI 30 from rfl, mI_le (by omega) (by omega)]; omega
  have hv : vp_in (nI n) 30 := vp_nI (by omega) (by omega)
  refine meth (lv := [some (.ref a), some (.int m), some (.int u), some (.int p)]) ok_gX3_put (by decide) rfl (Nat.le_of_ble_eq_true rfl) rfl ?_
  simp only [r_X3_put_0, r_X3_put_1, r_X3_put_4, r_X3_put_6, r_X3_put_9, r_X3_put_10, r_X3_put_13, r_X3_put_14, r_X3_put_17, r_X3_put_18, r_X3_put_19, r_X3_put_20, r_X3_put_23, r_X3_put_24, r_X3_put_27, r_X3_put_28, r_X3_put_29, r_X3_put_30, r_X3_put_33, r_X3_put_34, r_X3_put_37, r_X3_put_38, r_X3_put_39, r_X3_put_40, r_X3_put_41, r_X3_put_44, r_X3_put_45, r_X3_put_46, r_X3_put_49, fGet_0, fGet_1, fGet_2, fGet_3, fGet_4, fGet_5, fGet_6, fGet_7, fGet_8, fGet_9, fGet_10, fGet_11, fGet_12, fGet_13, fGet_14, fGet_15, fGet_16, fGet_17, fGet_18, fOk_0, fOk_1, fOk_2, fOk_3, fOk_4, fOk_5, fOk_6, fOk_7, fOk_8, fOk_9, fOk_10, fOk_11, fOk_12, fOk_13, fOk_14, fOk_15, fOk_16, fOk_17, fOk_18, fSet_0, fSet_1, fSet_2, fSet_3, fSet_4, fSet_5, fSet_6, fSet_7, fSet_8, fSet_9, fSet_10, fSet_11, fSet_12, fSet_13, fSet_14, fSet_15, fSet_16, fSet_17, fSet_18, bkIs_e, rIw_o, rL_o, rC_o, rD_o, rQ_o, bkIn_o, bkEl_o, bkUp_o, cats_n, cats_i, cats_r, cats_l, cats_d, kl_i, kl_r, kl_n, kl_l, kl_d, rI_w, ok_b0, ok_b1, ile_0_1, ile_1_0, true_or, or_true, bkK_v, bkK_0, wr_q, Nat.add_eq_left, Nat.left_eq_add, Nat.add_left_cancel_iff, Nat.reduceEqDiff, reduceIte, Nat.reduceEqDiff, nz_1, nz_2, nz_3, nz_4, nz_5, nz_6, nz_7, nz_8, nz_9, nz_10, nz_11, nz_12, true_and, and_true, Nat.reduceAdd, Nat.zero_add, Nat.add_zero, Nat.le_refl, Nat.reduceLeDiff, Nat.zero_le, not_true_eq_false, not_false_eq_true, false_implies, true_implies, implies_true, h0, h1, h2, h3, hc, hv, mI_nat (show n < 2147483648 by omega), mI_succ, bkK_x (M := gX3_put) rfl, show mC gX3_put = 0 from rfl, show mS gX3_put = 0 from rfl]
  refine hP _ ⟨?_, ?_, ?_, ?_⟩ ((((Same.rf.wr (by omega)).wr (by omega)).wr (by omega)).wr (by omega)) <;> simp [wr_q]
