/-! 21: lots that are used up, and copied -/
/-- how many are left after k slots, what is taken at slot k, what the taken ones cost, what stays -/
def leftM (fm fu : Nat → Int32) (m x : Int32) : Nat → Int32
  | 0 => x
  | k + 1 => if fm k = m then leftM fm fu m x k - (if fu k < leftM fm fu m x k then fu k else leftM fm fu m x k) else leftM fm fu m x k
def tookM (fm fu : Nat → Int32) (m x : Int32) (k : Nat) : Int32 := if fm k = m then (if fu k < leftM fm fu m x k then fu k else leftM fm fu m x k) else 0
def costM (fm fu fp : Nat → Int32) (m x : Int32) : Nat → Int32
  | 0 => 0
  | k + 1 => if fm k = m then costM fm fu fp m x k + tookM fm fu m x k * fp k else costM fm fu fp m x k
/-- the units behind k slots -/
def unitM (fm fu : Nat → Int32) (m x : Int32) : Nat → (Nat → Int32)
  | 0 => fu
  | k + 1 => if fm k = m then va_up (unitM fm fu m x k) k (fu k - tookM fm fu m x k) else unitM fm fu m x k
theorem unitM_ge (fm fu : Nat → Int32) (m x : Int32) : ∀ k j, k ≤ j → unitM fm fu m x k j = fu j := by
  intro k
  induction k with
  | zero => intro j _; rfl
  | succ k ih =>
    intro j hj
    unfold unitM
    split
    · unfold va_up
      rw [if_neg (by omega), ih j (by omega)]
    · exact ih j (by omega)
/-- the slots that stay, in a row -/
def kpM (fu : Nat → Int32) : Nat → Nat
  | 0 => 0
  | k + 1 => if 0 < fu k then kpM fu k + 1 else kpM fu k
theorem kpM_le (fu : Nat → Int32) : ∀ k, kpM fu k ≤ k := by
  intro k
  induction k with
  | zero => exact Nat.le_refl 0
  | succ k ih => unfold kpM; split <;> omega
def cmpM (fu f : Nat → Int32) : Nat → (Nat → Int32)
  | 0 => f
  | k + 1 => if 0 < fu k then va_up (cmpM fu f k) (kpM fu k) (f k) else cmpM fu f k
theorem cmpM_ge (fu f : Nat → Int32) : ∀ k j, k ≤ j → cmpM fu f k j = f j := by
  intro k
  induction k with
  | zero => intro j _; rfl
  | succ k ih =>
    intro j hj
    unfold cmpM
    split
    · unfold va_up
      have := kpM_le fu k
      rw [if_neg (by omega), ih j (by omega)]
    · exact ih j (by omega)
abbrev dropL (L : LA) : LA := (kpM L.2.2.1 L.1, cmpM L.2.2.1 L.2.1 L.1, cmpM L.2.2.1 L.2.2.1 L.1, cmpM L.2.2.1 L.2.2.2 L.1)
theorem c_dropEmpty {G : bkG} {h : bkHS} {a : Nat} {L : LA} (hL : IsLots h a L) (hn : L.1 ≤ 30) {Post : bkPo}
    (hP : ∀ h', IsLots h' a (dropL L) → Same h h' a 4 → Post (.inl none) h' none) : CM G gX3_dropEmptyLots [.ref a] h none Post := by
  obtain ⟨n, f1, f2, f3⟩ := L
  dsimp only at hn hP
  refine meth (lv := [some (.ref a), none, none]) ok_gX3_dropEmptyLots (by decide) rfl (Nat.le_of_ble_eq_true rfl) rfl ?_
  simp only [r_X3_dropEmptyLots_0, r_X3_dropEmptyLots_1, r_X3_dropEmptyLots_2, r_X3_dropEmptyLots_3, fGet_0, fGet_1, fGet_2, fGet_3, fGet_4, fGet_5, fGet_6, fGet_7, fGet_8, fGet_9, fGet_10, fGet_11, fGet_12, fGet_13, fGet_14, fGet_15, fGet_16, fGet_17, fGet_18, fOk_0, fOk_1, fOk_2, fOk_3, fOk_4, fOk_5, fOk_6, fOk_7, fOk_8, fOk_9, fOk_10, fOk_11, fOk_12, fOk_13, fOk_14, fOk_15, fOk_16, fOk_17, fOk_18, fSet_0, fSet_1, fSet_2, fSet_3, fSet_4, fSet_5, fSet_6, fSet_7, fSet_8, fSet_9, fSet_10, fSet_11, fSet_12, fSet_13, fSet_14, fSet_15, fSet_16, fSet_17, fSet_18, bkIs_e, rIw_o, rL_o, rC_o, rD_o, rQ_o, bkIn_o, bkEl_o, bkUp_o, cats_n, cats_i, cats_r, cats_l, cats_d, kl_i, kl_r, kl_n, kl_l, kl_d, rI_w, ok_b0, ok_b1, ile_0_1, ile_1_0, true_or, or_true, bkK_v, bkK_0, wr_q, Nat.add_eq_left, Nat.left_eq_add, Nat.add_left_cancel_iff, Nat.reduceEqDiff, reduceIte, Nat.reduceEqDiff, nz_1, nz_2, nz_3, nz_4, nz_5, nz_6, nz_7, nz_8, nz_9, nz_10, nz_11, nz_12, true_and, and_true, Nat.reduceAdd, Nat.zero_add, Nat.add_zero, Nat.le_refl, Nat.reduceLeDiff, Nat.zero_le, not_true_eq_false, not_false_eq_true, false_implies, true_implies, implies_true, bkK_x (M := gX3_dropEmptyLots) rfl, show mC gX3_dropEmptyLots = 0 from rfl, show mS gX3_dropEmptyLots = 0 from rfl]
  have loop : ∀ d k h', k + d = n → IsLots h' a (n, cmpM f2 f1 k, cmpM f2 f2 k, cmpM f2 f3 k) → Same h h' a 4 → wp G gX3_dropEmptyLots Post 4 [some (.ref a), some (.int (nI (kpM f2 k))), some (.int (nI k))] [] h' none 0 0 := by
    intro d
    induction d with
    | zero =>
      intro k h' hk hL hs
      have hk : k = n := by omega
      subst hk
      obtain ⟨h0, h1, h2, h3⟩ := hL
      simp only [r_X3_dropEmptyLots_0, r_X3_dropEmptyLots_1, r_X3_dropEmptyLots_2, r_X3_dropEmptyLots_3, r_X3_dropEmptyLots_4, r_X3_dropEmptyLots_5, r_X3_dropEmptyLots_6, r_X3_dropEmptyLots_9, r_X3_dropEmptyLots_13, r_X3_dropEmptyLots_16, r_X3_dropEmptyLots_17, r_X3_dropEmptyLots_18, r_X3_dropEmptyLots_21, r_X3_dropEmptyLots_22, r_X3_dropEmptyLots_25, r_X3_dropEmptyLots_26, r_X3_dropEmptyLots_27, r_X3_dropEmptyLots_30, r_X3_dropEmptyLots_31, r_X3_dropEmptyLots_32, r_X3_dropEmptyLots_33, r_X3_dropEmptyLots_34, r_X3_dropEmptyLots_37, r_X3_dropEmptyLots_38, r_X3_dropEmptyLots_39, r_X3_dropEmptyLots_42, r_X3_dropEmptyLots_43, r_X3_dropEmptyLots_44, r_X3_dropEmptyLots_45, r_X3_dropEmptyLots_46, r_X3_dropEmptyLots_49, r_X3_dropEmptyLots_50, r_X3_dropEmptyLots_51, r_X3_dropEmptyLots_54, r_X3_dropEmptyLots_55, r_X3_dropEmptyLots_56, r_X3_dropEmptyLots_57, r_X3_dropEmptyLots_60, r_X3_dropEmptyLots_63, r_X3_dropEmptyLots_66, r_X3_dropEmptyLots_67, r_X3_dropEmptyLots_68, r_X3_dropEmptyLots_71, fGet_0, fGet_1, fGet_2, fGet_3, fGet_4, fGet_5, fGet_6, fGet_7, fGet_8, fGet_9, fGet_10, fGet_11, fGet_12, fGet_13, fGet_14, fGet_15, fGet_16, fGet_17, fGet_18, fOk_0, fOk_1, fOk_2, fOk_3, fOk_4, fOk_5, fOk_6, fOk_7, fOk_8, fOk_9, fOk_10, fOk_11, fOk_12, fOk_13, fOk_14, fOk_15, fOk_16, fOk_17, fOk_18, fSet_0, fSet_1, fSet_2, fSet_3, fSet_4, fSet_5, fSet_6, fSet_7, fSet_8, fSet_9, fSet_10, fSet_11, fSet_12, fSet_13, fSet_14, fSet_15, fSet_16, fSet_17, fSet_18, bkIs_e, rIw_o, rL_o, rC_o, rD_o, rQ_o, bkIn_o, bkEl_o, bkUp_o, cats_n, cats_i, cats_r, cats_l, cats_d, kl_i, kl_r, kl_n, kl_l, kl_d, rI_w, ok_b0, ok_b1, ile_0_1, ile_1_0, true_or, or_true, bkK_v, bkK_0, wr_q, Nat.add_eq_left, Nat.left_eq_add, Nat.add_left_cancel_iff, Nat.reduceEqDiff, reduceIte, Nat.reduceEqDiff, nz_1, nz_2, nz_3, nz_4, nz_5, nz_6, nz_7, nz_8, nz_9, nz_10, nz_11, nz_12, true_and, and_true, Nat.reduceAdd, Nat.zero_add, Nat.add_zero, Nat.le_refl, Nat.reduceLeDiff, Nat.zero_le, not_true_eq_false, not_false_eq_true, false_implies, true_implies, implies_true, h0, mI_le (show k < 2147483648 by omega) (show k < 2147483648 by omega), bkK_x (M := gX3_dropEmptyLots) rfl, show mC gX3_dropEmptyLots = 0 from rfl, show mS gX3_dropEmptyLots = 0 from rfl]
      refine hP _ ⟨?_, ?_, ?_, ?_⟩ (hs.wr (by omega)) <;> simp [wr_q, h1, h2, h3]
    | succ d ih =>
      intro k h' hk hL hs
      have hkp := kpM_le f2 k
      have hc : ¬ n ≤ k := by omega
      have hv : vp_in (nI k) 30 := vp_nI (by omega) (by omega)
      have hv2 : vp_in (nI (kpM f2 k)) 30 := vp_nI (by omega) (by omega)
      obtain ⟨h0, h1, h2, h3⟩ := hL
      dsimp only at h0 h1 h2 h3
      rw [r_X3_dropEmptyLots_4]
      simp only [r_X3_dropEmptyLots_0, r_X3_dropEmptyLots_1, r_X3_dropEmptyLots_2, r_X3_dropEmptyLots_3, r_X3_dropEmptyLots_5, r_X3_dropEmptyLots_6, r_X3_dropEmptyLots_9, r_X3_dropEmptyLots_12, r_X3_dropEmptyLots_13, r_X3_dropEmptyLots_16, r_X3_dropEmptyLots_17, r_X3_dropEmptyLots_18, r_X3_dropEmptyLots_21, r_X3_dropEmptyLots_22, r_X3_dropEmptyLots_25, r_X3_dropEmptyLots_26, r_X3_dropEmptyLots_27, r_X3_dropEmptyLots_30, r_X3_dropEmptyLots_31, r_X3_dropEmptyLots_32, r_X3_dropEmptyLots_33, r_X3_dropEmptyLots_34, r_X3_dropEmptyLots_37, r_X3_dropEmptyLots_38, r_X3_dropEmptyLots_39, r_X3_dropEmptyLots_42, r_X3_dropEmptyLots_43, r_X3_dropEmptyLots_44, r_X3_dropEmptyLots_45, r_X3_dropEmptyLots_46, r_X3_dropEmptyLots_49, r_X3_dropEmptyLots_50, r_X3_dropEmptyLots_51, r_X3_dropEmptyLots_54, r_X3_dropEmptyLots_55, r_X3_dropEmptyLots_56, r_X3_dropEmptyLots_57, r_X3_dropEmptyLots_60, r_X3_dropEmptyLots_63, r_X3_dropEmptyLots_66, r_X3_dropEmptyLots_67, r_X3_dropEmptyLots_68, r_X3_dropEmptyLots_71, fGet_0, fGet_1, fGet_2, fGet_3, fGet_4, fGet_5, fGet_6, fGet_7, fGet_8, fGet_9, fGet_10, fGet_11, fGet_12, fGet_13, fGet_14, fGet_15, fGet_16, fGet_17, fGet_18, fOk_0, fOk_1, fOk_2, fOk_3, fOk_4, fOk_5, fOk_6, fOk_7, fOk_8, fOk_9, fOk_10, fOk_11, fOk_12, fOk_13, fOk_14, fOk_15, fOk_16, fOk_17, fOk_18, fSet_0, fSet_1, fSet_2, fSet_3, fSet_4, fSet_5, fSet_6, fSet_7, fSet_8, fSet_9, fSet_10, fSet_11, fSet_12, fSet_13, fSet_14, fSet_15, fSet_16, fSet_17, fSet_18, bkIs_e, rIw_o, rL_o, rC_o, rD_o, rQ_o, bkIn_o, bkEl_o, bkUp_o, cats_n, cats_i, cats_r, cats_l, cats_d, kl_i, kl_r, kl_n, kl_l, kl_d, rI_w, ok_b0, ok_b1, ile_0_1, ile_1_0, true_or, or_true, bkK_v, bkK_0, wr_q, Nat.add_eq_left, Nat.left_eq_add, Nat.add_left_cancel_iff, Nat.reduceEqDiff, reduceIte, Nat.reduceEqDiff, nz_1, nz_2, nz_3, nz_4, nz_5, nz_6, nz_7, nz_8, nz_9, nz_10, nz_11, nz_12, true_and, and_true, Nat.reduceAdd, Nat.zero_add, Nat.add_zero, Nat.le_refl, Nat.reduceLeDiff, Nat.zero_le, not_true_eq_false, not_false_eq_true, false_implies, true_implies, implies_true, h0, h1, h2, h3, mI_le (show n < 2147483648 by omega) (show k < 2147483648 by omega), hc, rI_o h1, rI_o h2, rI_o h3, mI_nat (show k < 2147483648 by omega), mI_nat (show kpM f2 k < 2147483648 by omega), mI_succ, hv, hv2, cmpM_ge f2 f2 k k (Nat.le_refl k), cmpM_ge f2 f1 k k (Nat.le_refl k), cmpM_ge f2 f3 k k (Nat.le_refl k), bkK_x (M := gX3_dropEmptyLots) rfl, show mC gX3_dropEmptyLots = 0 from rfl, show mS gX3_dropEmptyLots = 0 from rfl]
      refine ⟨fun hm => ?_, fun hm => ?_⟩
      · have hm2 : ¬ 0 < f2 k := by grind
        have hi := ih (k + 1) h' (by omega)
        simp only [kpM, cmpM, if_neg hm2] at hi
        exact hi ⟨h0, h1, h2, h3⟩ hs
      · have hm2 : 0 < f2 k := by grind
        have hi := ih (k + 1)
        simp only [kpM, cmpM, if_pos hm2] at hi
        refine hi _ (by omega) ⟨?_, ?_, ?_, ?_⟩ ?_
        · simp [wr_q, h0]
        · simp [wr_q]
        · simp [wr_q]
        · simp [wr_q]
        · exact ((hs.wr (by omega)).wr (by omega)).wr (by omega)
  exact loop n 0 h (by omega) hL Same.rf
theorem c_take {G : bkG} {h : bkHS} {a : Nat} {L : LA} {m x : Int32} (hL : IsLots h a L) (hn : L.1 ≤ 30) {Post : bkPo}
    (hP : ∀ h', IsLots h' a (dropL (L.1, L.2.1, unitM L.2.1 L.2.2.1 m x L.1, L.2.2.2)) → Same h h' a 4 → Post (.inl (some (.int (costM L.2.1 L.2.2.1 L.2.2.2 m x L.1)))) h' none) : CM G gX3_take [.ref a, .int m, .int x] h none Post := by
  obtain ⟨n, f1, f2, f3⟩ := L
  dsimp only at hn hP
  refine meth (lv := [some (.ref a), some (.int m), some (.int x), none, none, none, none]) ok_gX3_take (by decide) rfl (Nat.le_of_ble_eq_true rfl) rfl ?_
  simp only [r_X3_take_0, r_X3_take_1, r_X3_take_2, r_X3_take_3, r_X3_take_5, r_X3_take_6, fGet_0, fGet_1, fGet_2, fGet_3, fGet_4, fGet_5, fGet_6, fGet_7, fGet_8, fGet_9, fGet_10, fGet_11, fGet_12, fGet_13, fGet_14, fGet_15, fGet_16, fGet_17, fGet_18, fOk_0, fOk_1, fOk_2, fOk_3, fOk_4, fOk_5, fOk_6, fOk_7, fOk_8, fOk_9, fOk_10, fOk_11, fOk_12, fOk_13, fOk_14, fOk_15, fOk_16, fOk_17, fOk_18, fSet_0, fSet_1, fSet_2, fSet_3, fSet_4, fSet_5, fSet_6, fSet_7, fSet_8, fSet_9, fSet_10, fSet_11, fSet_12, fSet_13, fSet_14, fSet_15, fSet_16, fSet_17, fSet_18, bkIs_e, rIw_o, rL_o, rC_o, rD_o, rQ_o, bkIn_o, bkEl_o, bkUp_o, cats_n, cats_i, cats_r, cats_l, cats_d, kl_i, kl_r, kl_n, kl_l, kl_d, rI_w, ok_b0, ok_b1, ile_0_1, ile_1_0, true_or, or_true, bkK_v, bkK_0, wr_q, Nat.add_eq_left, Nat.left_eq_add, Nat.add_left_cancel_iff, Nat.reduceEqDiff, reduceIte, Nat.reduceEqDiff, nz_1, nz_2, nz_3, nz_4, nz_5, nz_6, nz_7, nz_8, nz_9, nz_10, nz_11, nz_12, true_and, and_true, Nat.reduceAdd, Nat.zero_add, Nat.add_zero, Nat.le_refl, Nat.reduceLeDiff, Nat.zero_le, not_true_eq_false, not_false_eq_true, false_implies, true_implies, implies_true, bkK_x (M := gX3_take) rfl, show mC gX3_take = 0 from rfl, show mS gX3_take = 0 from rfl]
  have loop : ∀ d k h' t, k + d = n → IsLots h' a (n, f1, unitM f1 f2 m x k, f3) → Same h h' a 4 → wp G gX3_take Post 8 [some (.ref a), some (.int m), some (.int x), some (.int (leftM f1 f2 m x k)), some (.int (costM f1 f2 f3 m x k)), some (.int (nI k)), t] [] h' none 0 0 := by
    intro d
    induction d with
    | zero =>
      intro k h' t hk hL hs
      have hk : k = n := by omega
      subst hk
      obtain ⟨h0, h1, h2, h3⟩ := id hL
      simp only [r_X3_take_0, r_X3_take_1, r_X3_take_2, r_X3_take_3, r_X3_take_5, r_X3_take_6, r_X3_take_8, r_X3_take_10, r_X3_take_11, r_X3_take_14, r_X3_take_18, r_X3_take_21, r_X3_take_23, r_X3_take_24, r_X3_take_25, r_X3_take_28, r_X3_take_29, r_X3_take_30, r_X3_take_33, r_X3_take_35, r_X3_take_36, r_X3_take_39, r_X3_take_41, r_X3_take_42, r_X3_take_45, r_X3_take_47, r_X3_take_48, r_X3_take_49, r_X3_take_51, r_X3_take_52, r_X3_take_53, r_X3_take_54, r_X3_take_56, r_X3_take_57, r_X3_take_58, r_X3_take_60, r_X3_take_62, r_X3_take_63, r_X3_take_66, r_X3_take_68, r_X3_take_69, r_X3_take_70, r_X3_take_71, r_X3_take_73, r_X3_take_76, r_X3_take_79, r_X3_take_80, r_X3_take_83, r_X3_take_85, fGet_0, fGet_1, fGet_2, fGet_3, fGet_4, fGet_5, fGet_6, fGet_7, fGet_8, fGet_9, fGet_10, fGet_11, fGet_12, fGet_13, fGet_14, fGet_15, fGet_16, fGet_17, fGet_18, fOk_0, fOk_1, fOk_2, fOk_3, fOk_4, fOk_5, fOk_6, fOk_7, fOk_8, fOk_9, fOk_10, fOk_11, fOk_12, fOk_13, fOk_14, fOk_15, fOk_16, fOk_17, fOk_18, fSet_0, fSet_1, fSet_2, fSet_3, fSet_4, fSet_5, fSet_6, fSet_7, fSet_8, fSet_9, fSet_10, fSet_11, fSet_12, fSet_13, fSet_14, fSet_15, fSet_16, fSet_17, fSet_18, bkIs_e, rIw_o, rL_o, rC_o, rD_o, rQ_o, bkIn_o, bkEl_o, bkUp_o, cats_n, cats_i, cats_r, cats_l, cats_d, kl_i, kl_r, kl_n, kl_l, kl_d, rI_w, ok_b0, ok_b1, ile_0_1, ile_1_0, true_or, or_true, bkK_v, bkK_0, wr_q, Nat.add_eq_left, Nat.left_eq_add, Nat.add_left_cancel_iff, Nat.reduceEqDiff, reduceIte, Nat.reduceEqDiff, nz_1, nz_2, nz_3, nz_4, nz_5, nz_6, nz_7, nz_8, nz_9, nz_10, nz_11, nz_12, true_and, and_true, Nat.reduceAdd, Nat.zero_add, Nat.add_zero, Nat.le_refl, Nat.reduceLeDiff, Nat.zero_le, not_true_eq_false, not_false_eq_true, false_implies, true_implies, implies_true, h0, mI_le (show k < 2147483648 by omega) (show k < 2147483648 by omega), bkK_x (M := gX3_take) rfl, show mC gX3_take = 0 from rfl, show mS gX3_take = 0 from rfl]
      refine c_dropEmpty hL hn fun h'' hL' hs' => ?_
      simp only [r_X3_take_0, r_X3_take_1, r_X3_take_2, r_X3_take_3, r_X3_take_5, r_X3_take_6, r_X3_take_8, r_X3_take_10, r_X3_take_11, r_X3_take_14, r_X3_take_18, r_X3_take_21, r_X3_take_23, r_X3_take_24, r_X3_take_25, r_X3_take_28, r_X3_take_29, r_X3_take_30, r_X3_take_33, r_X3_take_35, r_X3_take_36, r_X3_take_39, r_X3_take_41, r_X3_take_42, r_X3_take_45, r_X3_take_47, r_X3_take_48, r_X3_take_49, r_X3_take_51, r_X3_take_52, r_X3_take_53, r_X3_take_54, r_X3_take_56, r_X3_take_57, r_X3_take_58, r_X3_take_60, r_X3_take_62, r_X3_take_63, r_X3_take_66, r_X3_take_68, r_X3_take_69, r_X3_take_70, r_X3_take_71, r_X3_take_73, r_X3_take_76, r_X3_take_79, r_X3_take_80, r_X3_take_83, r_X3_take_85, fGet_0, fGet_1, fGet_2, fGet_3, fGet_4, fGet_5, fGet_6, fGet_7, fGet_8, fGet_9, fGet_10, fGet_11, fGet_12, fGet_13, fGet_14, fGet_15, fGet_16, fGet_17, fGet_18, fOk_0, fOk_1, fOk_2, fOk_3, fOk_4, fOk_5, fOk_6, fOk_7, fOk_8, fOk_9, fOk_10, fOk_11, fOk_12, fOk_13, fOk_14, fOk_15, fOk_16, fOk_17, fOk_18, fSet_0, fSet_1, fSet_2, fSet_3, fSet_4, fSet_5, fSet_6, fSet_7, fSet_8, fSet_9, fSet_10, fSet_11, fSet_12, fSet_13, fSet_14, fSet_15, fSet_16, fSet_17, fSet_18, bkIs_e, rIw_o, rL_o, rC_o, rD_o, rQ_o, bkIn_o, bkEl_o, bkUp_o, cats_n, cats_i, cats_r, cats_l, cats_d, kl_i, kl_r, kl_n, kl_l, kl_d, rI_w, ok_b0, ok_b1, ile_0_1, ile_1_0, true_or, or_true, bkK_v, bkK_0, wr_q, Nat.add_eq_left, Nat.left_eq_add, Nat.add_left_cancel_iff, Nat.reduceEqDiff, reduceIte, Nat.reduceEqDiff, nz_1, nz_2, nz_3, nz_4, nz_5, nz_6, nz_7, nz_8, nz_9, nz_10, nz_11, nz_12, true_and, and_true, Nat.reduceAdd, Nat.zero_add, Nat.add_zero, Nat.le_refl, Nat.reduceLeDiff, Nat.zero_le, not_true_eq_false, not_false_eq_true, false_implies, true_implies, implies_true, h0, mI_le (show k < 2147483648 by omega) (show k < 2147483648 by omega), bkK_x (M := gX3_take) rfl, show mC gX3_take = 0 from rfl, show mS gX3_take = 0 from rfl]
      exact hP _ hL' (hs.tr hs')
    | succ d ih =>
      intro k h' t hk hL hs
      have hc : ¬ n ≤ k := by omega
      have hv : vp_in (nI k) 30 := vp_nI (by omega) (by omega)
      obtain ⟨h0, h1, h2, h3⟩ := id hL
      dsimp only at h0 h1 h2 h3
      rw [r_X3_take_8]
      simp only [r_X3_take_0, r_X3_take_1, r_X3_take_2, r_X3_take_3, r_X3_take_5, r_X3_take_6, r_X3_take_10, r_X3_take_11, r_X3_take_14, r_X3_take_17, r_X3_take_18, r_X3_take_21, r_X3_take_23, r_X3_take_24, r_X3_take_25, r_X3_take_28, r_X3_take_29, r_X3_take_30, r_X3_take_33, r_X3_take_35, r_X3_take_36, r_X3_take_39, r_X3_take_41, r_X3_take_42, r_X3_take_45, r_X3_take_47, r_X3_take_48, r_X3_take_49, r_X3_take_51, r_X3_take_52, r_X3_take_53, r_X3_take_54, r_X3_take_56, r_X3_take_57, r_X3_take_58, r_X3_take_60, r_X3_take_62, r_X3_take_63, r_X3_take_66, r_X3_take_68, r_X3_take_69, r_X3_take_70, r_X3_take_71, r_X3_take_73, r_X3_take_76, r_X3_take_79, r_X3_take_80, r_X3_take_83, r_X3_take_85, fGet_0, fGet_1, fGet_2, fGet_3, fGet_4, fGet_5, fGet_6, fGet_7, fGet_8, fGet_9, fGet_10, fGet_11, fGet_12, fGet_13, fGet_14, fGet_15, fGet_16, fGet_17, fGet_18, fOk_0, fOk_1, fOk_2, fOk_3, fOk_4, fOk_5, fOk_6, fOk_7, fOk_8, fOk_9, fOk_10, fOk_11, fOk_12, fOk_13, fOk_14, fOk_15, fOk_16, fOk_17, fOk_18, fSet_0, fSet_1, fSet_2, fSet_3, fSet_4, fSet_5, fSet_6, fSet_7, fSet_8, fSet_9, fSet_10, fSet_11, fSet_12, fSet_13, fSet_14, fSet_15, fSet_16, fSet_17, fSet_18, bkIs_e, rIw_o, rL_o, rC_o, rD_o, rQ_o, bkIn_o, bkEl_o, bkUp_o, cats_n, cats_i, cats_r, cats_l, cats_d, kl_i, kl_r, kl_n, kl_l, kl_d, rI_w, ok_b0, ok_b1, ile_0_1, ile_1_0, true_or, or_true, bkK_v, bkK_0, wr_q, Nat.add_eq_left, Nat.left_eq_add, Nat.add_left_cancel_iff, Nat.reduceEqDiff, reduceIte, Nat.reduceEqDiff, nz_1, nz_2, nz_3, nz_4, nz_5, nz_6, nz_7, nz_8, nz_9, nz_10, nz_11, nz_12, true_and, and_true, Nat.reduceAdd, Nat.zero_add, Nat.add_zero, Nat.le_refl, Nat.reduceLeDiff, Nat.zero_le, not_true_eq_false, not_false_eq_true, false_implies, true_implies, implies_true, h0, h1, h2, h3, mI_le (show n < 2147483648 by omega) (show k < 2147483648 by omega), hc, rI_o h1, rI_o h2, rI_o h3, mI_nat (show k < 2147483648 by omega), mI_succ, hv, unitM_ge f1 f2 m x k k (Nat.le_refl k), bkK_x (M := gX3_take) rfl, show mC gX3_take = 0 from rfl, show mS gX3_take = 0 from rfl]
      refine ⟨fun hm => ?_, fun hm => ?_⟩
      · have hi := ih (k + 1) (wr h' (a + 2) (eI 30 (va_up (unitM f1 f2 m x k) k (f2 k - tookM f1 f2 m x k)))) (some (.int (tookM f1 f2 m x k))) (by omega) ?_ (hs.wr (b := a + 2) (by omega))
        · simp only [leftM, costM, if_pos hm] at hi
          rw [show tookM f1 f2 m x k = (if f2 k < leftM f1 f2 m x k then f2 k else leftM f1 f2 m x k) from if_pos hm] at hi
          exact hi
        · refine ⟨?_, ?_, ?_, ?_⟩
          · simp [wr_q, h0]
          · simp [wr_q, h1]
          · simp [wr_q, unitM, if_pos hm, tookM]
          · simp [wr_q, h3]
      · have hi := ih (k + 1) h' t (by omega)
        simp only [leftM, costM, unitM, if_neg hm] at hi
        exact hi ⟨h0, h1, h2, h3⟩ hs
  exact loop n 0 h none (by omega) hL Same.rf
theorem c_lotsCopy {G : bkG} {h : bkHS} {a b : Nat} {L L' : LA} (hL : IsLots h a L) (hL' : IsLots h b L') (hab : b + 4 ≤ a ∨ a + 4 ≤ b) {Post : bkPo}
    (hP : ∀ h', IsLots h' a L' → Same h h' a 4 → Post (.inl none) h' none) : CM G gX3_copyFrom [.ref a, .ref b] h none Post := by
  obtain ⟨n, f1, f2, f3⟩ := L
  obtain ⟨n', g1, g2, g3⟩ := L'
  obtain ⟨h0, h1, h2, h3⟩ := hL
  obtain ⟨k0, k1, k2, k3⟩ := hL'
  dsimp only at h0 h1 h2 h3 k0 k1 k2 k3
  refine meth (lv := [some (.ref a), some (.ref b)]) ok_gX3_copyFrom (by decide) rfl (Nat.le_of_ble_eq_true rfl) rfl ?_
  simp only [r_X3_copyFrom_0, r_X3_copyFrom_1, r_X3_copyFrom_4, r_X3_copyFrom_5, r_X3_copyFrom_6, r_X3_copyFrom_9, r_X3_copyFrom_10, r_X3_copyFrom_15, r_X3_copyFrom_16, r_X3_copyFrom_19, r_X3_copyFrom_20, r_X3_copyFrom_21, r_X3_copyFrom_24, r_X3_copyFrom_25, r_X3_copyFrom_30, r_X3_copyFrom_31, r_X3_copyFrom_34, r_X3_copyFrom_35, r_X3_copyFrom_36, r_X3_copyFrom_39, r_X3_copyFrom_40, r_X3_copyFrom_45, r_X3_copyFrom_46, r_X3_copyFrom_47, r_X3_copyFrom_50, r_X3_copyFrom_53, fGet_0, fGet_1, fGet_2, fGet_3, fGet_4, fGet_5, fGet_6, fGet_7, fGet_8, fGet_9, fGet_10, fGet_11, fGet_12, fGet_13, fGet_14, fGet_15, fGet_16, fGet_17, fGet_18, fOk_0, fOk_1, fOk_2, fOk_3, fOk_4, fOk_5, fOk_6, fOk_7, fOk_8, fOk_9, fOk_10, fOk_11, fOk_12, fOk_13, fOk_14, fOk_15, fOk_16, fOk_17, fOk_18, fSet_0, fSet_1, fSet_2, fSet_3, fSet_4, fSet_5, fSet_6, fSet_7, fSet_8, fSet_9, fSet_10, fSet_11, fSet_12, fSet_13, fSet_14, fSet_15, fSet_16, fSet_17, fSet_18, bkIs_e, rIw_o, rL_o, rC_o, rD_o, rQ_o, bkIn_o, bkEl_o, bkUp_o, cats_n, cats_i, cats_r, cats_l, cats_d, kl_i, kl_r, kl_n, kl_l, kl_d, rI_w, ok_b0, ok_b1, ile_0_1, ile_1_0, true_or, or_true, bkK_v, bkK_0, wr_q, Nat.add_eq_left, Nat.left_eq_add, Nat.add_left_cancel_iff, Nat.reduceEqDiff, reduceIte, Nat.reduceEqDiff, nz_1, nz_2, nz_3, nz_4, nz_5, nz_6, nz_7, nz_8, nz_9, nz_10, nz_11, nz_12, true_and, and_true, Nat.reduceAdd, Nat.zero_add, Nat.add_zero, Nat.le_refl, Nat.reduceLeDiff, Nat.zero_le, not_true_eq_false, not_false_eq_true, false_implies, true_implies, implies_true, h0, k0, bkK_x (M := gX3_copyFrom) rfl, show mC gX3_copyFrom = 0 from rfl, show mS gX3_copyFrom = 0 from rfl]
  refine k_cpyI dc_X3_copyFrom_12 rfl rfl k1 h1 (by decide) rfl fun ha e1 s1 => ?_
  replace h0 := (s1 _ (by omega)).trans h0
  replace k0 := (s1 _ (by omega)).trans k0
  simp only [r_X3_copyFrom_0, r_X3_copyFrom_1, r_X3_copyFrom_4, r_X3_copyFrom_5, r_X3_copyFrom_6, r_X3_copyFrom_9, r_X3_copyFrom_10, r_X3_copyFrom_15, r_X3_copyFrom_16, r_X3_copyFrom_19, r_X3_copyFrom_20, r_X3_copyFrom_21, r_X3_copyFrom_24, r_X3_copyFrom_25, r_X3_copyFrom_30, r_X3_copyFrom_31, r_X3_copyFrom_34, r_X3_copyFrom_35, r_X3_copyFrom_36, r_X3_copyFrom_39, r_X3_copyFrom_40, r_X3_copyFrom_45, r_X3_copyFrom_46, r_X3_copyFrom_47, r_X3_copyFrom_50, r_X3_copyFrom_53, fGet_0, fGet_1, fGet_2, fGet_3, fGet_4, fGet_5, fGet_6, fGet_7, fGet_8, fGet_9, fGet_10, fGet_11, fGet_12, fGet_13, fGet_14, fGet_15, fGet_16, fGet_17, fGet_18, fOk_0, fOk_1, fOk_2, fOk_3, fOk_4, fOk_5, fOk_6, fOk_7, fOk_8, fOk_9, fOk_10, fOk_11, fOk_12, fOk_13, fOk_14, fOk_15, fOk_16, fOk_17, fOk_18, fSet_0, fSet_1, fSet_2, fSet_3, fSet_4, fSet_5, fSet_6, fSet_7, fSet_8, fSet_9, fSet_10, fSet_11, fSet_12, fSet_13, fSet_14, fSet_15, fSet_16, fSet_17, fSet_18, bkIs_e, rIw_o, rL_o, rC_o, rD_o, rQ_o, bkIn_o, bkEl_o, bkUp_o, cats_n, cats_i, cats_r, cats_l, cats_d, kl_i, kl_r, kl_n, kl_l, kl_d, rI_w, ok_b0, ok_b1, ile_0_1, ile_1_0, true_or, or_true, bkK_v, bkK_0, wr_q, Nat.add_eq_left, Nat.left_eq_add, Nat.add_left_cancel_iff, Nat.reduceEqDiff, reduceIte, Nat.reduceEqDiff, nz_1, nz_2, nz_3, nz_4, nz_5, nz_6, nz_7, nz_8, nz_9, nz_10, nz_11, nz_12, true_and, and_true, Nat.reduceAdd, Nat.zero_add, Nat.add_zero, Nat.le_refl, Nat.reduceLeDiff, Nat.zero_le, not_true_eq_false, not_false_eq_true, false_implies, true_implies, implies_true, h0, k0, bkK_x (M := gX3_copyFrom) rfl, show mC gX3_copyFrom = 0 from rfl, show mS gX3_copyFrom = 0 from rfl]
  refine k_cpyI dc_X3_copyFrom_27 rfl rfl ((s1 _ (by omega)).trans k2) ((s1 _ (by omega)).trans h2) (by decide) rfl fun hb e2 s2 => ?_
  replace h0 := (s2 _ (by omega)).trans h0
  replace k0 := (s2 _ (by omega)).trans k0
  simp only [r_X3_copyFrom_0, r_X3_copyFrom_1, r_X3_copyFrom_4, r_X3_copyFrom_5, r_X3_copyFrom_6, r_X3_copyFrom_9, r_X3_copyFrom_10, r_X3_copyFrom_15, r_X3_copyFrom_16, r_X3_copyFrom_19, r_X3_copyFrom_20, r_X3_copyFrom_21, r_X3_copyFrom_24, r_X3_copyFrom_25, r_X3_copyFrom_30, r_X3_copyFrom_31, r_X3_copyFrom_34, r_X3_copyFrom_35, r_X3_copyFrom_36, r_X3_copyFrom_39, r_X3_copyFrom_40, r_X3_copyFrom_45, r_X3_copyFrom_46, r_X3_copyFrom_47, r_X3_copyFrom_50, r_X3_copyFrom_53, fGet_0, fGet_1, fGet_2, fGet_3, fGet_4, fGet_5, fGet_6, fGet_7, fGet_8, fGet_9, fGet_10, fGet_11, fGet_12, fGet_13, fGet_14, fGet_15, fGet_16, fGet_17, fGet_18, fOk_0, fOk_1, fOk_2, fOk_3, fOk_4, fOk_5, fOk_6, fOk_7, fOk_8, fOk_9, fOk_10, fOk_11, fOk_12, fOk_13, fOk_14, fOk_15, fOk_16, fOk_17, fOk_18, fSet_0, fSet_1, fSet_2, fSet_3, fSet_4, fSet_5, fSet_6, fSet_7, fSet_8, fSet_9, fSet_10, fSet_11, fSet_12, fSet_13, fSet_14, fSet_15, fSet_16, fSet_17, fSet_18, bkIs_e, rIw_o, rL_o, rC_o, rD_o, rQ_o, bkIn_o, bkEl_o, bkUp_o, cats_n, cats_i, cats_r, cats_l, cats_d, kl_i, kl_r, kl_n, kl_l, kl_d, rI_w, ok_b0, ok_b1, ile_0_1, ile_1_0, true_or, or_true, bkK_v, bkK_0, wr_q, Nat.add_eq_left, Nat.left_eq_add, Nat.add_left_cancel_iff, Nat.reduceEqDiff, reduceIte, Nat.reduceEqDiff, nz_1, nz_2, nz_3, nz_4, nz_5, nz_6, nz_7, nz_8, nz_9, nz_10, nz_11, nz_12, true_and, and_true, Nat.reduceAdd, Nat.zero_add, Nat.add_zero, Nat.le_refl, Nat.reduceLeDiff, Nat.zero_le, not_true_eq_false, not_false_eq_true, false_implies, true_implies, implies_true, h0, k0, bkK_x (M := gX3_copyFrom) rfl, show mC gX3_copyFrom = 0 from rfl, show mS gX3_copyFrom = 0 from rfl]
  refine k_cpyI dc_X3_copyFrom_42 rfl rfl ((s2 _ (by omega)).trans ((s1 _ (by omega)).trans k3)) ((s2 _ (by omega)).trans ((s1 _ (by omega)).trans h3)) (by decide) rfl fun hc e3 s3 => ?_
  replace h0 := (s3 _ (by omega)).trans h0
  replace k0 := (s3 _ (by omega)).trans k0
  simp only [r_X3_copyFrom_0, r_X3_copyFrom_1, r_X3_copyFrom_4, r_X3_copyFrom_5, r_X3_copyFrom_6, r_X3_copyFrom_9, r_X3_copyFrom_10, r_X3_copyFrom_15, r_X3_copyFrom_16, r_X3_copyFrom_19, r_X3_copyFrom_20, r_X3_copyFrom_21, r_X3_copyFrom_24, r_X3_copyFrom_25, r_X3_copyFrom_30, r_X3_copyFrom_31, r_X3_copyFrom_34, r_X3_copyFrom_35, r_X3_copyFrom_36, r_X3_copyFrom_39, r_X3_copyFrom_40, r_X3_copyFrom_45, r_X3_copyFrom_46, r_X3_copyFrom_47, r_X3_copyFrom_50, r_X3_copyFrom_53, fGet_0, fGet_1, fGet_2, fGet_3, fGet_4, fGet_5, fGet_6, fGet_7, fGet_8, fGet_9, fGet_10, fGet_11, fGet_12, fGet_13, fGet_14, fGet_15, fGet_16, fGet_17, fGet_18, fOk_0, fOk_1, fOk_2, fOk_3, fOk_4, fOk_5, fOk_6, fOk_7, fOk_8, fOk_9, fOk_10, fOk_11, fOk_12, fOk_13, fOk_14, fOk_15, fOk_16, fOk_17, fOk_18, fSet_0, fSet_1, fSet_2, fSet_3, fSet_4, fSet_5, fSet_6, fSet_7, fSet_8, fSet_9, fSet_10, fSet_11, fSet_12, fSet_13, fSet_14, fSet_15, fSet_16, fSet_17, fSet_18, bkIs_e, rIw_o, rL_o, rC_o, rD_o, rQ_o, bkIn_o, bkEl_o, bkUp_o, cats_n, cats_i, cats_r, cats_l, cats_d, kl_i, kl_r, kl_n, kl_l, kl_d, rI_w, ok_b0, ok_b1, ile_0_1, ile_1_0, true_or, or_true, bkK_v, bkK_0, wr_q, Nat.add_eq_left, Nat.left_eq_add, Nat.add_left_cancel_iff, Nat.reduceEqDiff, reduceIte, Nat.reduceEqDiff, nz_1, nz_2, nz_3, nz_4, nz_5, nz_6, nz_7, nz_8, nz_9, nz_10, nz_11, nz_12, true_and, and_true, Nat.reduceAdd, Nat.zero_add, Nat.add_zero, Nat.le_refl, Nat.reduceLeDiff, Nat.zero_le, not_true_eq_false, not_false_eq_true, false_implies, true_implies, implies_true, h0, k0, bkK_x (M := gX3_copyFrom) rfl, show mC gX3_copyFrom = 0 from rfl, show mS gX3_copyFrom = 0 from rfl]
  refine hP _ ⟨?_, ?_, ?_, ?_⟩ ?_
  · simp [wr_q]
  · rw [wr_n _ _ (by omega), s3 _ (by omega), s2 _ (by omega)]; exact e1
  · rw [wr_n _ _ (by omega), s3 _ (by omega)]; exact e2
  · rw [wr_n _ _ (by omega)]; exact e3
  · intro q hq
    rw [wr_n _ _ (by omega), s3 _ (by omega), s2 _ (by omega), s1 _ (by omega)]
