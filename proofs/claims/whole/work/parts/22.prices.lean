/-! 22: the list prices -/
def IsPrices (h : bkHS) (a : Nat) (L : LA) : Prop := h a = some (eO 6 [.ref (a + 1), .ref (a + 2), .ref (a + 3), .int (nI L.1)]) ∧ h (a + 1) = some (eI 20 L.2.1) ∧ h (a + 2) = some (eI 20 L.2.2.1) ∧ h (a + 3) = some (eI 20 L.2.2.2)
theorem IsPrices.same {h h' : bkHS} {a : Nat} {L : LA} (hL : IsPrices h a L) (hs : ∀ q, a ≤ q → q < a + 4 → h' q = h q) : IsPrices h' a L :=
  ⟨(hs a (by omega) (by omega)).trans hL.1, (hs _ (by omega) (by omega)).trans hL.2.1, (hs _ (by omega) (by omega)).trans hL.2.2.1, (hs _ (by omega) (by omega)).trans hL.2.2.2⟩
/-- the first slot of a material and a day from slot k on, or the row's end -/
def pslM (fm fd : Nat → Int32) (m y : Int32) : Nat → Nat → Nat
  | k, 0 => k
  | k, d + 1 => if fm k = m ∧ fd k = y then k else pslM fm fd m y (k + 1) d
theorem pslM_ge (fm fd : Nat → Int32) (m y : Int32) : ∀ d k, k ≤ pslM fm fd m y k d ∧ pslM fm fd m y k d ≤ k + d := by
  intro d
  induction d with
  | zero => intro k; exact ⟨Nat.le_refl _, Nat.le_refl _⟩
  | succ d ih =>
    intro k
    have := ih (k + 1)
    unfold pslM
    split <;> omega
def pslI (L : LA) (m y : Int32) : Int32 := if pslM L.2.1 L.2.2.1 m y 0 L.1 = L.1 then -1 else nI (pslM L.2.1 L.2.2.1 m y 0 L.1)
theorem c_slotFrom {G : bkG} {h : bkHS} {a : Nat} {L : LA} {m y : Int32} (hL : IsPrices h a L) (hn : L.1 ≤ 20) {Post : bkPo} (hP : Post (.inl (some (.int (pslI L m y)))) h none) : CM G gX6_slotFrom [.ref a, .int m, .int y] h none Post := by
  obtain ⟨n, f1, f2, f3⟩ := L
  obtain ⟨h0, h1, h2, h3⟩ := hL
  dsimp only at h0 h1 h2 h3 hn hP
  refine meth (lv := [some (.ref a), some (.int m), some (.int y), none]) ok_gX6_slotFrom (by decide) rfl (Nat.le_of_ble_eq_true rfl) rfl ?_
  simp only [r_X6_slotFrom_0, r_X6_slotFrom_1, fGet_0, fGet_1, fGet_2, fGet_3, fGet_4, fGet_5, fGet_6, fGet_7, fGet_8, fGet_9, fGet_10, fGet_11, fGet_12, fGet_13, fGet_14, fGet_15, fGet_16, fGet_17, fGet_18, fOk_0, fOk_1, fOk_2, fOk_3, fOk_4, fOk_5, fOk_6, fOk_7, fOk_8, fOk_9, fOk_10, fOk_11, fOk_12, fOk_13, fOk_14, fOk_15, fOk_16, fOk_17, fOk_18, fSet_0, fSet_1, fSet_2, fSet_3, fSet_4, fSet_5, fSet_6, fSet_7, fSet_8, fSet_9, fSet_10, fSet_11, fSet_12, fSet_13, fSet_14, fSet_15, fSet_16, fSet_17, fSet_18, bkIs_e, rIw_o, rL_o, rC_o, rD_o, rQ_o, bkIn_o, bkEl_o, bkUp_o, cats_n, cats_i, cats_r, cats_l, cats_d, kl_i, kl_r, kl_n, kl_l, kl_d, rI_w, ok_b0, ok_b1, ile_0_1, ile_1_0, true_or, or_true, bkK_v, bkK_0, wr_q, Nat.add_eq_left, Nat.left_eq_add, Nat.add_left_cancel_iff, Nat.reduceEqDiff, reduceIte, Nat.reduceEqDiff, nz_1, nz_2, nz_3, nz_4, nz_5, nz_6, nz_7, nz_8, nz_9, nz_10, nz_11, nz_12, true_and, and_true, Nat.reduceAdd, Nat.zero_add, Nat.add_zero, Nat.le_refl, Nat.reduceLeDiff, Nat.zero_le, not_true_eq_false, not_false_eq_true, false_implies, true_implies, implies_true, bkK_x (M := gX6_slotFrom) rfl, show mC gX6_slotFrom = 0 from rfl, show mS gX6_slotFrom = 0 from rfl]
  have loop : ∀ d k, k + d = n → pslM f1 f2 m y 0 n = pslM f1 f2 m y k d → wp G gX6_slotFrom Post 2 [some (.ref a), some (.int m), some (.int y), some (.int (nI k))] [] h none 0 0 := by
    intro d
    induction d with
    | zero =>
      intro k hk hq
      have hk : k = n := by omega
      subst hk
      simp only [r_X6_slotFrom_0, r_X6_slotFrom_1, r_X6_slotFrom_2, r_X6_slotFrom_3, r_X6_slotFrom_4, r_X6_slotFrom_7, r_X6_slotFrom_11, r_X6_slotFrom_14, r_X6_slotFrom_15, r_X6_slotFrom_16, r_X6_slotFrom_17, r_X6_slotFrom_20, r_X6_slotFrom_21, r_X6_slotFrom_24, r_X6_slotFrom_25, r_X6_slotFrom_26, r_X6_slotFrom_27, r_X6_slotFrom_30, r_X6_slotFrom_31, r_X6_slotFrom_32, r_X6_slotFrom_35, r_X6_slotFrom_38, r_X6_slotFrom_39, fGet_0, fGet_1, fGet_2, fGet_3, fGet_4, fGet_5, fGet_6, fGet_7, fGet_8, fGet_9, fGet_10, fGet_11, fGet_12, fGet_13, fGet_14, fGet_15, fGet_16, fGet_17, fGet_18, fOk_0, fOk_1, fOk_2, fOk_3, fOk_4, fOk_5, fOk_6, fOk_7, fOk_8, fOk_9, fOk_10, fOk_11, fOk_12, fOk_13, fOk_14, fOk_15, fOk_16, fOk_17, fOk_18, fSet_0, fSet_1, fSet_2, fSet_3, fSet_4, fSet_5, fSet_6, fSet_7, fSet_8, fSet_9, fSet_10, fSet_11, fSet_12, fSet_13, fSet_14, fSet_15, fSet_16, fSet_17, fSet_18, bkIs_e, rIw_o, rL_o, rC_o, rD_o, rQ_o, bkIn_o, bkEl_o, bkUp_o, cats_n, cats_i, cats_r, cats_l, cats_d, kl_i, kl_r, kl_n, kl_l, kl_d, rI_w, ok_b0, ok_b1, ile_0_1, ile_1_0, true_or, or_true, bkK_v, bkK_0, wr_q, Nat.add_eq_left, Nat.left_eq_add, Nat.add_left_cancel_iff, Nat.reduceEqDiff, reduceIte, Nat.reduceEqDiff, nz_1, nz_2, nz_3, nz_4, nz_5, nz_6, nz_7, nz_8, nz_9, nz_10, nz_11, nz_12, true_and, and_true, Nat.reduceAdd, Nat.zero_add, Nat.add_zero, Nat.le_refl, Nat.reduceLeDiff, Nat.zero_le, not_true_eq_false, not_false_eq_true, false_implies, true_implies, implies_true, h0, mI_le (show k < 2147483648 by omega) (show k < 2147483648 by omega), bkK_x (M := gX6_slotFrom) rfl, show mC gX6_slotFrom = 0 from rfl, show mS gX6_slotFrom = 0 from rfl]
      unfold pslI at hP
      dsimp only at hP
      rw [if_pos (show pslM f1 f2 m y 0 k = k from hq)] at hP
      exact hP
    | succ d ih =>
      intro k hk hq
      have hc : ¬ n ≤ k := by omega
      have hv : vp_in (nI k) 20 := vp_nI (by omega) (by omega)
      have hi := ih (k + 1) (by omega)
      rw [show pslM f1 f2 m y k (d + 1) = (if f1 k = m ∧ f2 k = y then k else pslM f1 f2 m y (k + 1) d) from rfl] at hq
      rw [r_X6_slotFrom_2]
      simp only [r_X6_slotFrom_0, r_X6_slotFrom_1, r_X6_slotFrom_3, r_X6_slotFrom_4, r_X6_slotFrom_7, r_X6_slotFrom_10, r_X6_slotFrom_11, r_X6_slotFrom_14, r_X6_slotFrom_15, r_X6_slotFrom_16, r_X6_slotFrom_17, r_X6_slotFrom_20, r_X6_slotFrom_21, r_X6_slotFrom_24, r_X6_slotFrom_25, r_X6_slotFrom_26, r_X6_slotFrom_27, r_X6_slotFrom_30, r_X6_slotFrom_31, r_X6_slotFrom_32, r_X6_slotFrom_35, r_X6_slotFrom_38, r_X6_slotFrom_39, fGet_0, fGet_1, fGet_2, fGet_3, fGet_4, fGet_5, fGet_6, fGet_7, fGet_8, fGet_9, fGet_10, fGet_11, fGet_12, fGet_13, fGet_14, fGet_15, fGet_16, fGet_17, fGet_18, fOk_0, fOk_1, fOk_2, fOk_3, fOk_4, fOk_5, fOk_6, fOk_7, fOk_8, fOk_9, fOk_10, fOk_11, fOk_12, fOk_13, fOk_14, fOk_15, fOk_16, fOk_17, fOk_18, fSet_0, fSet_1, fSet_2, fSet_3, fSet_4, fSet_5, fSet_6, fSet_7, fSet_8, fSet_9, fSet_10, fSet_11, fSet_12, fSet_13, fSet_14, fSet_15, fSet_16, fSet_17, fSet_18, bkIs_e, rIw_o, rL_o, rC_o, rD_o, rQ_o, bkIn_o, bkEl_o, bkUp_o, cats_n, cats_i, cats_r, cats_l, cats_d, kl_i, kl_r, kl_n, kl_l, kl_d, rI_w, ok_b0, ok_b1, ile_0_1, ile_1_0, true_or, or_true, bkK_v, bkK_0, wr_q, Nat.add_eq_left, Nat.left_eq_add, Nat.add_left_cancel_iff, Nat.reduceEqDiff, reduceIte, Nat.reduceEqDiff, nz_1, nz_2, nz_3, nz_4, nz_5, nz_6, nz_7, nz_8, nz_9, nz_10, nz_11, nz_12, true_and, and_true, Nat.reduceAdd, Nat.zero_add, Nat.add_zero, Nat.le_refl, Nat.reduceLeDiff, Nat.zero_le, not_true_eq_false, not_false_eq_true, false_implies, true_implies, implies_true, h0, mI_le (show n < 2147483648 by omega) (show k < 2147483648 by omega), hc, rI_o h1, rI_o h2, mI_nat (show k < 2147483648 by omega), mI_succ, hv, bkK_x (M := gX6_slotFrom) rfl, show mC gX6_slotFrom = 0 from rfl, show mS gX6_slotFrom = 0 from rfl]
      refine ⟨fun hm => ⟨fun hy => ?_, fun hy => ?_⟩, fun hm => ?_⟩
      · rw [if_pos ⟨hm, hy⟩] at hq
        unfold pslI at hP
        dsimp only at hP
        rw [hq, if_neg (by omega)] at hP
        exact hP
      · rw [if_neg (fun q => hy q.2)] at hq
        exact hi hq
      · rw [if_neg (fun q => hm q.1)] at hq
        exact hi hq
  exact loop n 0 (by omega) rfl
/-- the latest day so far, and its price -/
def lpM (fm fd fp : Nat → Int32) (m y : Int32) : Nat → Int32 × Int32
  | 0 => (-1, -1)
  | k + 1 => if fm k = m ∧ fd k ≤ y ∧ (lpM fm fd fp m y k).1 < fd k then (fd k, fp k) else lpM fm fd fp m y k
def lpI (L : LA) (m y : Int32) : Int32 := (lpM L.2.1 L.2.2.1 L.2.2.2 m y L.1).2
theorem c_listPrice {G : bkG} {h : bkHS} {a : Nat} {L : LA} {m y : Int32} (hL : IsPrices h a L) (hn : L.1 ≤ 20) {Post : bkPo} (hP : Post (.inl (some (.int (lpI L m y)))) h none) : CM G gX6_listPrice [.ref a, .int m, .int y] h none Post := by
  obtain ⟨n, f1, f2, f3⟩ := L
  obtain ⟨h0, h1, h2, h3⟩ := hL
  dsimp only at h0 h1 h2 h3 hn
  unfold lpI at hP
  dsimp only at hP
  refine meth (lv := [some (.ref a), some (.int m), some (.int y), none, none, none]) ok_gX6_listPrice (by decide) rfl (Nat.le_of_ble_eq_true rfl) rfl ?_
  simp only [r_X6_listPrice_0, r_X6_listPrice_1, r_X6_listPrice_2, r_X6_listPrice_3, r_X6_listPrice_5, r_X6_listPrice_6, fGet_0, fGet_1, fGet_2, fGet_3, fGet_4, fGet_5, fGet_6, fGet_7, fGet_8, fGet_9, fGet_10, fGet_11, fGet_12, fGet_13, fGet_14, fGet_15, fGet_16, fGet_17, fGet_18, fOk_0, fOk_1, fOk_2, fOk_3, fOk_4, fOk_5, fOk_6, fOk_7, fOk_8, fOk_9, fOk_10, fOk_11, fOk_12, fOk_13, fOk_14, fOk_15, fOk_16, fOk_17, fOk_18, fSet_0, fSet_1, fSet_2, fSet_3, fSet_4, fSet_5, fSet_6, fSet_7, fSet_8, fSet_9, fSet_10, fSet_11, fSet_12, fSet_13, fSet_14, fSet_15, fSet_16, fSet_17, fSet_18, bkIs_e, rIw_o, rL_o, rC_o, rD_o, rQ_o, bkIn_o, bkEl_o, bkUp_o, cats_n, cats_i, cats_r, cats_l, cats_d, kl_i, kl_r, kl_n, kl_l, kl_d, rI_w, ok_b0, ok_b1, ile_0_1, ile_1_0, true_or, or_true, bkK_v, bkK_0, wr_q, Nat.add_eq_left, Nat.left_eq_add, Nat.add_left_cancel_iff, Nat.reduceEqDiff, reduceIte, Nat.reduceEqDiff, nz_1, nz_2, nz_3, nz_4, nz_5, nz_6, nz_7, nz_8, nz_9, nz_10, nz_11, nz_12, true_and, and_true, Nat.reduceAdd, Nat.zero_add, Nat.add_zero, Nat.le_refl, Nat.reduceLeDiff, Nat.zero_le, not_true_eq_false, not_false_eq_true, false_implies, true_implies, implies_true, bkK_x (M := gX6_listPrice) rfl, show mC gX6_listPrice = 0 from rfl, show mS gX6_listPrice = 0 from rfl]
  have loop : ∀ d k, k + d = n → wp G gX6_listPrice Post 8 [some (.ref a), some (.int m), some (.int y), some (.int (lpM f1 f2 f3 m y k).1), some (.int (lpM f1 f2 f3 m y k).2), some (.int (nI k))] [] h none 0 0 := by
    intro d
    induction d with
    | zero =>
      intro k hk
      have hk : k = n := by omega
      subst hk
      simp only [r_X6_listPrice_0, r_X6_listPrice_1, r_X6_listPrice_2, r_X6_listPrice_3, r_X6_listPrice_5, r_X6_listPrice_6, r_X6_listPrice_8, r_X6_listPrice_10, r_X6_listPrice_11, r_X6_listPrice_14, r_X6_listPrice_18, r_X6_listPrice_21, r_X6_listPrice_23, r_X6_listPrice_24, r_X6_listPrice_25, r_X6_listPrice_28, r_X6_listPrice_29, r_X6_listPrice_32, r_X6_listPrice_34, r_X6_listPrice_35, r_X6_listPrice_36, r_X6_listPrice_39, r_X6_listPrice_40, r_X6_listPrice_43, r_X6_listPrice_45, r_X6_listPrice_46, r_X6_listPrice_47, r_X6_listPrice_50, r_X6_listPrice_51, r_X6_listPrice_54, r_X6_listPrice_56, r_X6_listPrice_57, r_X6_listPrice_58, r_X6_listPrice_59, r_X6_listPrice_62, r_X6_listPrice_64, r_X6_listPrice_65, r_X6_listPrice_67, r_X6_listPrice_70, r_X6_listPrice_73, r_X6_listPrice_75, fGet_0, fGet_1, fGet_2, fGet_3, fGet_4, fGet_5, fGet_6, fGet_7, fGet_8, fGet_9, fGet_10, fGet_11, fGet_12, fGet_13, fGet_14, fGet_15, fGet_16, fGet_17, fGet_18, fOk_0, fOk_1, fOk_2, fOk_3, fOk_4, fOk_5, fOk_6, fOk_7, fOk_8, fOk_9, fOk_10, fOk_11, fOk_12, fOk_13, fOk_14, fOk_15, fOk_16, fOk_17, fOk_18, fSet_0, fSet_1, fSet_2, fSet_3, fSet_4, fSet_5, fSet_6, fSet_7, fSet_8, fSet_9, fSet_10, fSet_11, fSet_12, fSet_13, fSet_14, fSet_15, fSet_16, fSet_17, fSet_18, bkIs_e, rIw_o, rL_o, rC_o, rD_o, rQ_o, bkIn_o, bkEl_o, bkUp_o, cats_n, cats_i, cats_r, cats_l, cats_d, kl_i, kl_r, kl_n, kl_l, kl_d, rI_w, ok_b0, ok_b1, ile_0_1, ile_1_0, true_or, or_true, bkK_v, bkK_0, wr_q, Nat.add_eq_left, Nat.left_eq_add, Nat.add_left_cancel_iff, Nat.reduceEqDiff, reduceIte, Nat.reduceEqDiff, nz_1, nz_2, nz_3, nz_4, nz_5, nz_6, nz_7, nz_8, nz_9, nz_10, nz_11, nz_12, true_and, and_true, Nat.reduceAdd, Nat.zero_add, Nat.add_zero, Nat.le_refl, Nat.reduceLeDiff, Nat.zero_le, not_true_eq_false, not_false_eq_true, false_implies, true_implies, implies_true, h0, mI_le (show k < 2147483648 by omega) (show k < 2147483648 by omega), bkK_x (M := gX6_listPrice) rfl, show mC gX6_listPrice = 0 from rfl, show mS gX6_listPrice = 0 from rfl]
      exact hP
    | succ d ih =>
      intro k hk
      have hc : ¬ n ≤ k := by omega
      have hv : vp_in (nI k) 20 := vp_nI (by omega) (by omega)
      have hi := ih (k + 1) (by omega)
      rw [r_X6_listPrice_8]
      simp only [r_X6_listPrice_0, r_X6_listPrice_1, r_X6_listPrice_2, r_X6_listPrice_3, r_X6_listPrice_5, r_X6_listPrice_6, r_X6_listPrice_10, r_X6_listPrice_11, r_X6_listPrice_14, r_X6_listPrice_17, r_X6_listPrice_18, r_X6_listPrice_21, r_X6_listPrice_23, r_X6_listPrice_24, r_X6_listPrice_25, r_X6_listPrice_28, r_X6_listPrice_29, r_X6_listPrice_32, r_X6_listPrice_34, r_X6_listPrice_35, r_X6_listPrice_36, r_X6_listPrice_39, r_X6_listPrice_40, r_X6_listPrice_43, r_X6_listPrice_45, r_X6_listPrice_46, r_X6_listPrice_47, r_X6_listPrice_50, r_X6_listPrice_51, r_X6_listPrice_54, r_X6_listPrice_56, r_X6_listPrice_57, r_X6_listPrice_58, r_X6_listPrice_59, r_X6_listPrice_62, r_X6_listPrice_64, r_X6_listPrice_65, r_X6_listPrice_67, r_X6_listPrice_70, r_X6_listPrice_73, r_X6_listPrice_75, fGet_0, fGet_1, fGet_2, fGet_3, fGet_4, fGet_5, fGet_6, fGet_7, fGet_8, fGet_9, fGet_10, fGet_11, fGet_12, fGet_13, fGet_14, fGet_15, fGet_16, fGet_17, fGet_18, fOk_0, fOk_1, fOk_2, fOk_3, fOk_4, fOk_5, fOk_6, fOk_7, fOk_8, fOk_9, fOk_10, fOk_11, fOk_12, fOk_13, fOk_14, fOk_15, fOk_16, fOk_17, fOk_18, fSet_0, fSet_1, fSet_2, fSet_3, fSet_4, fSet_5, fSet_6, fSet_7, fSet_8, fSet_9, fSet_10, fSet_11, fSet_12, fSet_13, fSet_14, fSet_15, fSet_16, fSet_17, fSet_18, bkIs_e, rIw_o, rL_o, rC_o, rD_o, rQ_o, bkIn_o, bkEl_o, bkUp_o, cats_n, cats_i, cats_r, cats_l, cats_d, kl_i, kl_r, kl_n, kl_l, kl_d, rI_w, ok_b0, ok_b1, ile_0_1, ile_1_0, true_or, or_true, bkK_v, bkK_0, wr_q, Nat.add_eq_left, Nat.left_eq_add, Nat.add_left_cancel_iff, Nat.reduceEqDiff, reduceIte, Nat.reduceEqDiff, nz_1, nz_2, nz_3, nz_4, nz_5, nz_6, nz_7, nz_8, nz_9, nz_10, nz_11, nz_12, true_and, and_true, Nat.reduceAdd, Nat.zero_add, Nat.add_zero, Nat.le_refl, Nat.reduceLeDiff, Nat.zero_le, not_true_eq_false, not_false_eq_true, false_implies, true_implies, implies_true, h0, mI_le (show n < 2147483648 by omega) (show k < 2147483648 by omega), hc, rI_o h1, rI_o h2, rI_o h3, mI_nat (show k < 2147483648 by omega), mI_succ, hv, bkK_x (M := gX6_listPrice) rfl, show mC gX6_listPrice = 0 from rfl, show mS gX6_listPrice = 0 from rfl]
      rw [lpM] at hi
      refine ⟨fun hm => ⟨fun hy => ?_, fun hy => ⟨fun hz => ?_, fun hz => ?_⟩⟩, fun hm => ?_⟩
      · rw [if_neg (fun q => absurd q.2.1 (by grind))] at hi
        exact hi
      · rw [if_neg (fun q => absurd q.2.2 (by grind))] at hi
        exact hi
      · rw [if_pos ⟨hm, by grind, by grind⟩] at hi
        exact hi
      · rw [if_neg (fun q => hm q.1)] at hi
        exact hi
  exact loop n 0 (by omega)
theorem c_pricesPut {G : bkG} {h : bkHS} {a : Nat} {L : LA} {m y p : Int32} (hL : IsPrices h a L) (hn : L.1 ≤ 20) (hf : pslM L.2.1 L.2.2.1 m y 0 L.1 = L.1 → L.1 < 20) {Post : bkPo}
    (hP : ∀ h', IsPrices h' a (if pslM L.2.1 L.2.2.1 m y 0 L.1 = L.1 then (L.1 + 1, va_up L.2.1 L.1 m, va_up L.2.2.1 L.1 y, va_up L.2.2.2 L.1 p) else (L.1, L.2.1, L.2.2.1, va_up L.2.2.2 (pslM L.2.1 L.2.2.1 m y 0 L.1) p)) → Same h h' a 4 → Post (.inl none) h' none) : CM G gX6_put [.ref a, .int m, .int y, .int p] h none Post := by
  obtain ⟨n, f1, f2, f3⟩ := L
  obtain ⟨h0, h1, h2, h3⟩ := id hL
  dsimp only at h0 h1 h2 h3 hn hP hf
  have hg := pslM_ge f1 f2 m y n 0
  refine meth (lv := [some (.ref a), some (.int m), some (.int y), some (.int p), none]) ok_gX6_put (by decide) rfl (Nat.le_of_ble_eq_true rfl) rfl ?_
  simp only [r_X6_put_0, r_X6_put_1, r_X6_put_2, r_X6_put_3, r_X6_put_6, r_X6_put_8, r_X6_put_10, r_X6_put_11, r_X6_put_14, r_X6_put_15, r_X6_put_18, r_X6_put_20, r_X6_put_21, r_X6_put_22, r_X6_put_25, r_X6_put_26, r_X6_put_29, r_X6_put_31, r_X6_put_34, r_X6_put_35, r_X6_put_38, r_X6_put_39, r_X6_put_42, r_X6_put_43, r_X6_put_44, r_X6_put_45, r_X6_put_48, r_X6_put_49, r_X6_put_52, r_X6_put_53, r_X6_put_54, r_X6_put_55, r_X6_put_58, r_X6_put_59, r_X6_put_62, r_X6_put_63, r_X6_put_64, r_X6_put_65, r_X6_put_66, r_X6_put_69, r_X6_put_70, r_X6_put_71, r_X6_put_74, fGet_0, fGet_1, fGet_2, fGet_3, fGet_4, fGet_5, fGet_6, fGet_7, fGet_8, fGet_9, fGet_10, fGet_11, fGet_12, fGet_13, fGet_14, fGet_15, fGet_16, fGet_17, fGet_18, fOk_0, fOk_1, fOk_2, fOk_3, fOk_4, fOk_5, fOk_6, fOk_7, fOk_8, fOk_9, fOk_10, fOk_11, fOk_12, fOk_13, fOk_14, fOk_15, fOk_16, fOk_17, fOk_18, fSet_0, fSet_1, fSet_2, fSet_3, fSet_4, fSet_5, fSet_6, fSet_7, fSet_8, fSet_9, fSet_10, fSet_11, fSet_12, fSet_13, fSet_14, fSet_15, fSet_16, fSet_17, fSet_18, bkIs_e, rIw_o, rL_o, rC_o, rD_o, rQ_o, bkIn_o, bkEl_o, bkUp_o, cats_n, cats_i, cats_r, cats_l, cats_d, kl_i, kl_r, kl_n, kl_l, kl_d, rI_w, ok_b0, ok_b1, ile_0_1, ile_1_0, true_or, or_true, bkK_v, bkK_0, wr_q, Nat.add_eq_left, Nat.left_eq_add, Nat.add_left_cancel_iff, Nat.reduceEqDiff, reduceIte, Nat.reduceEqDiff, nz_1, nz_2, nz_3, nz_4, nz_5, nz_6, nz_7, nz_8, nz_9, nz_10, nz_11, nz_12, true_and, and_true, Nat.reduceAdd, Nat.zero_add, Nat.add_zero, Nat.le_refl, Nat.reduceLeDiff, Nat.zero_le, not_true_eq_false, not_false_eq_true, false_implies, true_implies, implies_true, h0, bkK_x (M := gX6_put) rfl, show mC gX6_put = 0 from rfl, show mS gX6_put = 0 from rfl]
  refine c_slotFrom hL hn ?_
  unfold pslI
  dsimp only
  by_cases he : pslM f1 f2 m y 0 n = n
  · have hf := hf he
    have hc : ¬ (20 : Int32) ≤ nI n := by rw [show (20 : Int32) = nI 20 from rfl, mI_le (by omega) (by omega)]; omega
    have hv : vp_in (nI n) 20 := vp_nI (by omega) (by omega)
    rw [if_pos he] at hP
    rw [if_pos he]
    simp only [r_X6_put_0, r_X6_put_1, r_X6_put_2, r_X6_put_3, r_X6_put_6, r_X6_put_8, r_X6_put_10, r_X6_put_11, r_X6_put_14, r_X6_put_15, r_X6_put_18, r_X6_put_20, r_X6_put_21, r_X6_put_22, r_X6_put_25, r_X6_put_26, r_X6_put_29, r_X6_put_31, r_X6_put_34, r_X6_put_35, r_X6_put_38, r_X6_put_39, r_X6_put_42, r_X6_put_43, r_X6_put_44, r_X6_put_45, r_X6_put_48, r_X6_put_49, r_X6_put_52, r_X6_put_53, r_X6_put_54, r_X6_put_55, r_X6_put_58, r_X6_put_59, r_X6_put_62, r_X6_put_63, r_X6_put_64, r_X6_put_65, r_X6_put_66, r_X6_put_69, r_X6_put_70, r_X6_put_71, r_X6_put_74, fGet_0, fGet_1, fGet_2, fGet_3, fGet_4, fGet_5, fGet_6, fGet_7, fGet_8, fGet_9, fGet_10, fGet_11, fGet_12, fGet_13, fGet_14, fGet_15, fGet_16, fGet_17, fGet_18, fOk_0, fOk_1, fOk_2, fOk_3, fOk_4, fOk_5, fOk_6, fOk_7, fOk_8, fOk_9, fOk_10, fOk_11, fOk_12, fOk_13, fOk_14, fOk_15, fOk_16, fOk_17, fOk_18, fSet_0, fSet_1, fSet_2, fSet_3, fSet_4, fSet_5, fSet_6, fSet_7, fSet_8, fSet_9, fSet_10, fSet_11, fSet_12, fSet_13, fSet_14, fSet_15, fSet_16, fSet_17, fSet_18, bkIs_e, rIw_o, rL_o, rC_o, rD_o, rQ_o, bkIn_o, bkEl_o, bkUp_o, cats_n, cats_i, cats_r, cats_l, cats_d, kl_i, kl_r, kl_n, kl_l, kl_d, rI_w, ok_b0, ok_b1, ile_0_1, ile_1_0, true_or, or_true, bkK_v, bkK_0, wr_q, Nat.add_eq_left, Nat.left_eq_add, Nat.add_left_cancel_iff, Nat.reduceEqDiff, reduceIte, Nat.reduceEqDiff, nz_1, nz_2, nz_3, nz_4, nz_5, nz_6, nz_7, nz_8, nz_9, nz_10, nz_11, nz_12, true_and, and_true, Nat.reduceAdd, Nat.zero_add, Nat.add_zero, Nat.le_refl, Nat.reduceLeDiff, Nat.zero_le, not_true_eq_false, not_false_eq_true, false_implies, true_implies, implies_true, h0, h1, h2, h3, hc, hv, mI_nat (show n < 2147483648 by omega), mI_succ, bkK_x (M := gX6_put) rfl, show mC gX6_put = 0 from rfl, show mS gX6_put = 0 from rfl]
    refine hP _ ⟨?_, ?_, ?_, ?_⟩ ((((Same.rf.wr (by omega)).wr (by omega)).wr (by omega)).wr (by omega)) <;> simp [wr_q]
  · rw [if_neg he] at hP
    rw [if_neg he]
    generalize pslM f1 f2 m y 0 n = k at *
    have hv : vp_in (nI k) 20 := vp_nI (by omega) (by omega)
    have hq : ¬ nI k = -1 := by
      intro q
      have := mI_neg (a := k) (by omega)
      rw [q] at this
      exact this (by decide)
    simp only [r_X6_put_0, r_X6_put_1, r_X6_put_2, r_X6_put_3, r_X6_put_6, r_X6_put_8, r_X6_put_10, r_X6_put_11, r_X6_put_14, r_X6_put_15, r_X6_put_18, r_X6_put_20, r_X6_put_21, r_X6_put_22, r_X6_put_25, r_X6_put_26, r_X6_put_29, r_X6_put_31, r_X6_put_34, r_X6_put_35, r_X6_put_38, r_X6_put_39, r_X6_put_42, r_X6_put_43, r_X6_put_44, r_X6_put_45, r_X6_put_48, r_X6_put_49, r_X6_put_52, r_X6_put_53, r_X6_put_54, r_X6_put_55, r_X6_put_58, r_X6_put_59, r_X6_put_62, r_X6_put_63, r_X6_put_64, r_X6_put_65, r_X6_put_66, r_X6_put_69, r_X6_put_70, r_X6_put_71, r_X6_put_74, fGet_0, fGet_1, fGet_2, fGet_3, fGet_4, fGet_5, fGet_6, fGet_7, fGet_8, fGet_9, fGet_10, fGet_11, fGet_12, fGet_13, fGet_14, fGet_15, fGet_16, fGet_17, fGet_18, fOk_0, fOk_1, fOk_2, fOk_3, fOk_4, fOk_5, fOk_6, fOk_7, fOk_8, fOk_9, fOk_10, fOk_11, fOk_12, fOk_13, fOk_14, fOk_15, fOk_16, fOk_17, fOk_18, fSet_0, fSet_1, fSet_2, fSet_3, fSet_4, fSet_5, fSet_6, fSet_7, fSet_8, fSet_9, fSet_10, fSet_11, fSet_12, fSet_13, fSet_14, fSet_15, fSet_16, fSet_17, fSet_18, bkIs_e, rIw_o, rL_o, rC_o, rD_o, rQ_o, bkIn_o, bkEl_o, bkUp_o, cats_n, cats_i, cats_r, cats_l, cats_d, kl_i, kl_r, kl_n, kl_l, kl_d, rI_w, ok_b0, ok_b1, ile_0_1, ile_1_0, true_or, or_true, bkK_v, bkK_0, wr_q, Nat.add_eq_left, Nat.left_eq_add, Nat.add_left_cancel_iff, Nat.reduceEqDiff, reduceIte, Nat.reduceEqDiff, nz_1, nz_2, nz_3, nz_4, nz_5, nz_6, nz_7, nz_8, nz_9, nz_10, nz_11, nz_12, true_and, and_true, Nat.reduceAdd, Nat.zero_add, Nat.add_zero, Nat.le_refl, Nat.reduceLeDiff, Nat.zero_le, not_true_eq_false, not_false_eq_true, false_implies, true_implies, implies_true, h0, h1, h2, h3, hv, hq, mI_nat (show k < 2147483648 by omega), bkK_x (M := gX6_put) rfl, show mC gX6_put = 0 from rfl, show mS gX6_put = 0 from rfl]
    refine hP _ ⟨?_, ?_, ?_, ?_⟩ (Same.rf.wr (by omega)) <;> simp [wr_q, h0, h1, h2]
theorem mI_pred {n : Nat} (hn : 0 < n) : nI n - 1 = nI (n - 1) := by
  obtain ⟨k, rfl⟩ : ∃ k, n = k + 1 := ⟨n - 1, by omega⟩
  rw [← mI_succ, Nat.add_sub_cancel]
  grind
theorem c_pricesRemove {G : bkG} {h : bkHS} {a : Nat} {L : LA} {k : Nat} (hL : IsPrices h a L) (hn : L.1 ≤ 20) (hk : k < L.1) {Post : bkPo}
    (hP : ∀ h', IsPrices h' a (L.1 - 1, va_up L.2.1 k (L.2.1 (L.1 - 1)), va_up L.2.2.1 k (L.2.2.1 (L.1 - 1)), va_up L.2.2.2 k (L.2.2.2 (L.1 - 1))) → Same h h' a 4 → Post (.inl none) h' none) : CM G gX6_remove [.ref a, .int (nI k)] h none Post := by
  obtain ⟨n, f1, f2, f3⟩ := L
  obtain ⟨h0, h1, h2, h3⟩ := id hL
  dsimp only at h0 h1 h2 h3 hn hP hk
  have hc : ¬ nI n ≤ nI k := by rw [mI_le (by omega) (by omega)]; omega
  have hv : vp_in (nI k) 20 := vp_nI (by omega) (by omega)
  have hv2 : vp_in (nI (n - 1)) 20 := vp_nI (by omega) (by omega)
  have h5 := mI_neg (a := k) (by omega)
  refine meth (lv := [some (.ref a), some (.int (nI k))]) ok_gX6_remove (by decide) rfl (Nat.le_of_ble_eq_true rfl) rfl ?_
  simp only [r_X6_remove_0, r_X6_remove_1, r_X6_remove_4, r_X6_remove_5, r_X6_remove_6, r_X6_remove_9, r_X6_remove_12, r_X6_remove_13, r_X6_remove_14, r_X6_remove_17, r_X6_remove_18, r_X6_remove_19, r_X6_remove_22, r_X6_remove_23, r_X6_remove_26, r_X6_remove_27, r_X6_remove_28, r_X6_remove_31, r_X6_remove_32, r_X6_remove_35, r_X6_remove_36, r_X6_remove_37, r_X6_remove_38, r_X6_remove_41, r_X6_remove_42, r_X6_remove_43, r_X6_remove_46, r_X6_remove_47, r_X6_remove_50, r_X6_remove_51, r_X6_remove_52, r_X6_remove_53, r_X6_remove_56, r_X6_remove_57, r_X6_remove_58, r_X6_remove_61, r_X6_remove_62, r_X6_remove_65, r_X6_remove_66, r_X6_remove_67, fGet_0, fGet_1, fGet_2, fGet_3, fGet_4, fGet_5, fGet_6, fGet_7, fGet_8, fGet_9, fGet_10, fGet_11, fGet_12, fGet_13, fGet_14, fGet_15, fGet_16, fGet_17, fGet_18, fOk_0, fOk_1, fOk_2, fOk_3, fOk_4, fOk_5, fOk_6, fOk_7, fOk_8, fOk_9, fOk_10, fOk_11, fOk_12, fOk_13, fOk_14, fOk_15, fOk_16, fOk_17, fOk_18, fSet_0, fSet_1, fSet_2, fSet_3, fSet_4, fSet_5, fSet_6, fSet_7, fSet_8, fSet_9, fSet_10, fSet_11, fSet_12, fSet_13, fSet_14, fSet_15, fSet_16, fSet_17, fSet_18, bkIs_e, rIw_o, rL_o, rC_o, rD_o, rQ_o, bkIn_o, bkEl_o, bkUp_o, cats_n, cats_i, cats_r, cats_l, cats_d, kl_i, kl_r, kl_n, kl_l, kl_d, rI_w, ok_b0, ok_b1, ile_0_1, ile_1_0, true_or, or_true, bkK_v, bkK_0, wr_q, Nat.add_eq_left, Nat.left_eq_add, Nat.add_left_cancel_iff, Nat.reduceEqDiff, reduceIte, Nat.reduceEqDiff, nz_1, nz_2, nz_3, nz_4, nz_5, nz_6, nz_7, nz_8, nz_9, nz_10, nz_11, nz_12, true_and, and_true, Nat.reduceAdd, Nat.zero_add, Nat.add_zero, Nat.le_refl, Nat.reduceLeDiff, Nat.zero_le, not_true_eq_false, not_false_eq_true, false_implies, true_implies, implies_true, h0, h1, h2, h3, hc, hv, hv2, h5, rI_o h1, rI_o h2, rI_o h3, mI_nat (show k < 2147483648 by omega), mI_pred (show 0 < n by omega), mI_nat (show n - 1 < 2147483648 by omega), bkK_x (M := gX6_remove) rfl, show mC gX6_remove = 0 from rfl, show mS gX6_remove = 0 from rfl]
  refine hP _ ⟨?_, ?_, ?_, ?_⟩ ((((Same.rf.wr (by omega)).wr (by omega)).wr (by omega)).wr (by omega)) <;> simp [wr_q]
theorem c_pricesCopy {G : bkG} {h : bkHS} {a b : Nat} {L L' : LA} (hL : IsPrices h a L) (hL' : IsPrices h b L') (hab : b + 4 ≤ a ∨ a + 4 ≤ b) {Post : bkPo}
    (hP : ∀ h', IsPrices h' a L' → Same h h' a 4 → Post (.inl none) h' none) : CM G gX6_copyFrom [.ref a, .ref b] h none Post := by
  obtain ⟨n, f1, f2, f3⟩ := L
  obtain ⟨n', g1, g2, g3⟩ := L'
  obtain ⟨h0, h1, h2, h3⟩ := hL
  obtain ⟨k0, k1, k2, k3⟩ := hL'
  dsimp only at h0 h1 h2 h3 k0 k1 k2 k3
  refine meth (lv := [some (.ref a), some (.ref b)]) ok_gX6_copyFrom (by decide) rfl (Nat.le_of_ble_eq_true rfl) rfl ?_
  simp only [r_X6_copyFrom_0, r_X6_copyFrom_1, r_X6_copyFrom_4, r_X6_copyFrom_5, r_X6_copyFrom_6, r_X6_copyFrom_9, r_X6_copyFrom_10, r_X6_copyFrom_15, r_X6_copyFrom_16, r_X6_copyFrom_19, r_X6_copyFrom_20, r_X6_copyFrom_21, r_X6_copyFrom_24, r_X6_copyFrom_25, r_X6_copyFrom_30, r_X6_copyFrom_31, r_X6_copyFrom_34, r_X6_copyFrom_35, r_X6_copyFrom_36, r_X6_copyFrom_39, r_X6_copyFrom_40, r_X6_copyFrom_45, r_X6_copyFrom_46, r_X6_copyFrom_47, r_X6_copyFrom_50, r_X6_copyFrom_53, fGet_0, fGet_1, fGet_2, fGet_3, fGet_4, fGet_5, fGet_6, fGet_7, fGet_8, fGet_9, fGet_10, fGet_11, fGet_12, fGet_13, fGet_14, fGet_15, fGet_16, fGet_17, fGet_18, fOk_0, fOk_1, fOk_2, fOk_3, fOk_4, fOk_5, fOk_6, fOk_7, fOk_8, fOk_9, fOk_10, fOk_11, fOk_12, fOk_13, fOk_14, fOk_15, fOk_16, fOk_17, fOk_18, fSet_0, fSet_1, fSet_2, fSet_3, fSet_4, fSet_5, fSet_6, fSet_7, fSet_8, fSet_9, fSet_10, fSet_11, fSet_12, fSet_13, fSet_14, fSet_15, fSet_16, fSet_17, fSet_18, bkIs_e, rIw_o, rL_o, rC_o, rD_o, rQ_o, bkIn_o, bkEl_o, bkUp_o, cats_n, cats_i, cats_r, cats_l, cats_d, kl_i, kl_r, kl_n, kl_l, kl_d, rI_w, ok_b0, ok_b1, ile_0_1, ile_1_0, true_or, or_true, bkK_v, bkK_0, wr_q, Nat.add_eq_left, Nat.left_eq_add, Nat.add_left_cancel_iff, Nat.reduceEqDiff, reduceIte, Nat.reduceEqDiff, nz_1, nz_2, nz_3, nz_4, nz_5, nz_6, nz_7, nz_8, nz_9, nz_10, nz_11, nz_12, true_and, and_true, Nat.reduceAdd, Nat.zero_add, Nat.add_zero, Nat.le_refl, Nat.reduceLeDiff, Nat.zero_le, not_true_eq_false, not_false_eq_true, false_implies, true_implies, implies_true, h0, k0, bkK_x (M := gX6_copyFrom) rfl, show mC gX6_copyFrom = 0 from rfl, show mS gX6_copyFrom = 0 from rfl]
  refine k_cpyI dc_X6_copyFrom_12 rfl rfl k1 h1 (by decide) rfl fun ha e1 s1 => ?_
  replace h0 := (s1 _ (by omega)).trans h0
  replace k0 := (s1 _ (by omega)).trans k0
  simp only [r_X6_copyFrom_0, r_X6_copyFrom_1, r_X6_copyFrom_4, r_X6_copyFrom_5, r_X6_copyFrom_6, r_X6_copyFrom_9, r_X6_copyFrom_10, r_X6_copyFrom_15, r_X6_copyFrom_16, r_X6_copyFrom_19, r_X6_copyFrom_20, r_X6_copyFrom_21, r_X6_copyFrom_24, r_X6_copyFrom_25, r_X6_copyFrom_30, r_X6_copyFrom_31, r_X6_copyFrom_34, r_X6_copyFrom_35, r_X6_copyFrom_36, r_X6_copyFrom_39, r_X6_copyFrom_40, r_X6_copyFrom_45, r_X6_copyFrom_46, r_X6_copyFrom_47, r_X6_copyFrom_50, r_X6_copyFrom_53, fGet_0, fGet_1, fGet_2, fGet_3, fGet_4, fGet_5, fGet_6, fGet_7, fGet_8, fGet_9, fGet_10, fGet_11, fGet_12, fGet_13, fGet_14, fGet_15, fGet_16, fGet_17, fGet_18, fOk_0, fOk_1, fOk_2, fOk_3, fOk_4, fOk_5, fOk_6, fOk_7, fOk_8, fOk_9, fOk_10, fOk_11, fOk_12, fOk_13, fOk_14, fOk_15, fOk_16, fOk_17, fOk_18, fSet_0, fSet_1, fSet_2, fSet_3, fSet_4, fSet_5, fSet_6, fSet_7, fSet_8, fSet_9, fSet_10, fSet_11, fSet_12, fSet_13, fSet_14, fSet_15, fSet_16, fSet_17, fSet_18, bkIs_e, rIw_o, rL_o, rC_o, rD_o, rQ_o, bkIn_o, bkEl_o, bkUp_o, cats_n, cats_i, cats_r, cats_l, cats_d, kl_i, kl_r, kl_n, kl_l, kl_d, rI_w, ok_b0, ok_b1, ile_0_1, ile_1_0, true_or, or_true, bkK_v, bkK_0, wr_q, Nat.add_eq_left, Nat.left_eq_add, Nat.add_left_cancel_iff, Nat.reduceEqDiff, reduceIte, Nat.reduceEqDiff, nz_1, nz_2, nz_3, nz_4, nz_5, nz_6, nz_7, nz_8, nz_9, nz_10, nz_11, nz_12, true_and, and_true, Nat.reduceAdd, Nat.zero_add, Nat.add_zero, Nat.le_refl, Nat.reduceLeDiff, Nat.zero_le, not_true_eq_false, not_false_eq_true, false_implies, true_implies, implies_true, h0, k0, bkK_x (M := gX6_copyFrom) rfl, show mC gX6_copyFrom = 0 from rfl, show mS gX6_copyFrom = 0 from rfl]
  refine k_cpyI dc_X6_copyFrom_27 rfl rfl ((s1 _ (by omega)).trans k2) ((s1 _ (by omega)).trans h2) (by decide) rfl fun hb e2 s2 => ?_
  replace h0 := (s2 _ (by omega)).trans h0
  replace k0 := (s2 _ (by omega)).trans k0
  simp only [r_X6_copyFrom_0, r_X6_copyFrom_1, r_X6_copyFrom_4, r_X6_copyFrom_5, r_X6_copyFrom_6, r_X6_copyFrom_9, r_X6_copyFrom_10, r_X6_copyFrom_15, r_X6_copyFrom_16, r_X6_copyFrom_19, r_X6_copyFrom_20, r_X6_copyFrom_21, r_X6_copyFrom_24, r_X6_copyFrom_25, r_X6_copyFrom_30, r_X6_copyFrom_31, r_X6_copyFrom_34, r_X6_copyFrom_35, r_X6_copyFrom_36, r_X6_copyFrom_39, r_X6_copyFrom_40, r_X6_copyFrom_45, r_X6_copyFrom_46, r_X6_copyFrom_47, r_X6_copyFrom_50, r_X6_copyFrom_53, fGet_0, fGet_1, fGet_2, fGet_3, fGet_4, fGet_5, fGet_6, fGet_7, fGet_8, fGet_9, fGet_10, fGet_11, fGet_12, fGet_13, fGet_14, fGet_15, fGet_16, fGet_17, fGet_18, fOk_0, fOk_1, fOk_2, fOk_3, fOk_4, fOk_5, fOk_6, fOk_7, fOk_8, fOk_9, fOk_10, fOk_11, fOk_12, fOk_13, fOk_14, fOk_15, fOk_16, fOk_17, fOk_18, fSet_0, fSet_1, fSet_2, fSet_3, fSet_4, fSet_5, fSet_6, fSet_7, fSet_8, fSet_9, fSet_10, fSet_11, fSet_12, fSet_13, fSet_14, fSet_15, fSet_16, fSet_17, fSet_18, bkIs_e, rIw_o, rL_o, rC_o, rD_o, rQ_o, bkIn_o, bkEl_o, bkUp_o, cats_n, cats_i, cats_r, cats_l, cats_d, kl_i, kl_r, kl_n, kl_l, kl_d, rI_w, ok_b0, ok_b1, ile_0_1, ile_1_0, true_or, or_true, bkK_v, bkK_0, wr_q, Nat.add_eq_left, Nat.left_eq_add, Nat.add_left_cancel_iff, Nat.reduceEqDiff, reduceIte, Nat.reduceEqDiff, nz_1, nz_2, nz_3, nz_4, nz_5, nz_6, nz_7, nz_8, nz_9, nz_10, nz_11, nz_12, true_and, and_true, Nat.reduceAdd, Nat.zero_add, Nat.add_zero, Nat.le_refl, Nat.reduceLeDiff, Nat.zero_le, not_true_eq_false, not_false_eq_true, false_implies, true_implies, implies_true, h0, k0, bkK_x (M := gX6_copyFrom) rfl, show mC gX6_copyFrom = 0 from rfl, show mS gX6_copyFrom = 0 from rfl]
  refine k_cpyI dc_X6_copyFrom_42 rfl rfl ((s2 _ (by omega)).trans ((s1 _ (by omega)).trans k3)) ((s2 _ (by omega)).trans ((s1 _ (by omega)).trans h3)) (by decide) rfl fun hc e3 s3 => ?_
  replace h0 := (s3 _ (by omega)).trans h0
  replace k0 := (s3 _ (by omega)).trans k0
  simp only [r_X6_copyFrom_0, r_X6_copyFrom_1, r_X6_copyFrom_4, r_X6_copyFrom_5, r_X6_copyFrom_6, r_X6_copyFrom_9, r_X6_copyFrom_10, r_X6_copyFrom_15, r_X6_copyFrom_16, r_X6_copyFrom_19, r_X6_copyFrom_20, r_X6_copyFrom_21, r_X6_copyFrom_24, r_X6_copyFrom_25, r_X6_copyFrom_30, r_X6_copyFrom_31, r_X6_copyFrom_34, r_X6_copyFrom_35, r_X6_copyFrom_36, r_X6_copyFrom_39, r_X6_copyFrom_40, r_X6_copyFrom_45, r_X6_copyFrom_46, r_X6_copyFrom_47, r_X6_copyFrom_50, r_X6_copyFrom_53, fGet_0, fGet_1, fGet_2, fGet_3, fGet_4, fGet_5, fGet_6, fGet_7, fGet_8, fGet_9, fGet_10, fGet_11, fGet_12, fGet_13, fGet_14, fGet_15, fGet_16, fGet_17, fGet_18, fOk_0, fOk_1, fOk_2, fOk_3, fOk_4, fOk_5, fOk_6, fOk_7, fOk_8, fOk_9, fOk_10, fOk_11, fOk_12, fOk_13, fOk_14, fOk_15, fOk_16, fOk_17, fOk_18, fSet_0, fSet_1, fSet_2, fSet_3, fSet_4, fSet_5, fSet_6, fSet_7, fSet_8, fSet_9, fSet_10, fSet_11, fSet_12, fSet_13, fSet_14, fSet_15, fSet_16, fSet_17, fSet_18, bkIs_e, rIw_o, rL_o, rC_o, rD_o, rQ_o, bkIn_o, bkEl_o, bkUp_o, cats_n, cats_i, cats_r, cats_l, cats_d, kl_i, kl_r, kl_n, kl_l, kl_d, rI_w, ok_b0, ok_b1, ile_0_1, ile_1_0, true_or, or_true, bkK_v, bkK_0, wr_q, Nat.add_eq_left, Nat.left_eq_add, Nat.add_left_cancel_iff, Nat.reduceEqDiff, reduceIte, Nat.reduceEqDiff, nz_1, nz_2, nz_3, nz_4, nz_5, nz_6, nz_7, nz_8, nz_9, nz_10, nz_11, nz_12, true_and, and_true, Nat.reduceAdd, Nat.zero_add, Nat.add_zero, Nat.le_refl, Nat.reduceLeDiff, Nat.zero_le, not_true_eq_false, not_false_eq_true, false_implies, true_implies, implies_true, h0, k0, bkK_x (M := gX6_copyFrom) rfl, show mC gX6_copyFrom = 0 from rfl, show mS gX6_copyFrom = 0 from rfl]
  refine hP _ ⟨?_, ?_, ?_, ?_⟩ ?_
  · simp [wr_q]
  · rw [wr_n _ _ (by omega), s3 _ (by omega), s2 _ (by omega)]; exact e1
  · rw [wr_n _ _ (by omega), s3 _ (by omega)]; exact e2
  · rw [wr_n _ _ (by omega)]; exact e3
  · intro q hq
    rw [wr_n _ _ (by omega), s3 _ (by omega), s2 _ (by omega), s1 _ (by omega)]
theorem c_pricesNew {G : bkG} {h : bkHS} {a : Nat} {v0 v1 v2 v3 : Value} (h0 : h a = some (eO 6 [v0, v1, v2, v3])) {Post : bkPo}
    (hP : ∀ h', IsPrices h' a (0, fun _ => 0, fun _ => 0, fun _ => 0) → Same h h' a 4 → Post (.inl none) h' (some (a + 4))) : CM G gX6_init [.ref a] h (some (a + 1)) Post := by
  refine meth (lv := [some (.ref a)]) ok_gX6_init (by decide) rfl (Nat.le_of_ble_eq_true rfl) rfl ?_
  simp only [r_X6_init_0, r_X6_init_1, r_X6_init_4, r_X6_init_5, r_X6_init_7, r_X6_init_9, r_X6_init_12, r_X6_init_13, r_X6_init_15, r_X6_init_17, r_X6_init_20, r_X6_init_21, r_X6_init_23, r_X6_init_25, r_X6_init_28, r_X6_init_29, r_X6_init_30, r_X6_init_33, fGet_0, fGet_1, fGet_2, fGet_3, fGet_4, fGet_5, fGet_6, fGet_7, fGet_8, fGet_9, fGet_10, fGet_11, fGet_12, fGet_13, fGet_14, fGet_15, fGet_16, fGet_17, fGet_18, fOk_0, fOk_1, fOk_2, fOk_3, fOk_4, fOk_5, fOk_6, fOk_7, fOk_8, fOk_9, fOk_10, fOk_11, fOk_12, fOk_13, fOk_14, fOk_15, fOk_16, fOk_17, fOk_18, fSet_0, fSet_1, fSet_2, fSet_3, fSet_4, fSet_5, fSet_6, fSet_7, fSet_8, fSet_9, fSet_10, fSet_11, fSet_12, fSet_13, fSet_14, fSet_15, fSet_16, fSet_17, fSet_18, bkIs_e, rIw_o, rL_o, rC_o, rD_o, rQ_o, bkIn_o, bkEl_o, bkUp_o, cats_n, cats_i, cats_r, cats_l, cats_d, kl_i, kl_r, kl_n, kl_l, kl_d, rI_w, ok_b0, ok_b1, ile_0_1, ile_1_0, true_or, or_true, bkK_v, bkK_0, wr_q, Nat.add_eq_left, Nat.left_eq_add, Nat.add_left_cancel_iff, Nat.reduceEqDiff, reduceIte, Nat.reduceEqDiff, nz_1, nz_2, nz_3, nz_4, nz_5, nz_6, nz_7, nz_8, nz_9, nz_10, nz_11, nz_12, true_and, and_true, Nat.reduceAdd, Nat.zero_add, Nat.add_zero, Nat.le_refl, Nat.reduceLeDiff, Nat.zero_le, not_true_eq_false, not_false_eq_true, false_implies, true_implies, implies_true, h0, Nat.add_assoc, bkK_x (M := gX6_init) rfl, show mC gX6_init = 3 from rfl, show mS gX6_init = 60 from rfl]
  refine hP _ ⟨?_, ?_, ?_, ?_⟩ ?_
  · simp [wr_q]; rfl
  · simp [wr_q]
  · simp [wr_q]
  · simp [wr_q]
  · exact ((((((Same.rf.wr (by omega)).wr (by omega)).wr (by omega)).wr (by omega)).wr (by omega)).wr (by omega)).wr (by omega)
theorem c_lotsNew {G : bkG} {h : bkHS} {a : Nat} {v0 v1 v2 v3 : Value} (h0 : h a = some (eO 3 [v0, v1, v2, v3])) {Post : bkPo}
    (hP : ∀ h', IsLots h' a (0, fun _ => 0, fun _ => 0, fun _ => 0) → Same h h' a 4 → Post (.inl none) h' (some (a + 4))) : CM G gX3_init [.ref a] h (some (a + 1)) Post := by
  refine meth (lv := [some (.ref a)]) ok_gX3_init (by decide) rfl (Nat.le_of_ble_eq_true rfl) rfl ?_
  simp only [r_X3_init_0, r_X3_init_1, r_X3_init_4, r_X3_init_5, r_X3_init_7, r_X3_init_9, r_X3_init_12, r_X3_init_13, r_X3_init_15, r_X3_init_17, r_X3_init_20, r_X3_init_21, r_X3_init_23, r_X3_init_25, r_X3_init_28, r_X3_init_29, r_X3_init_30, r_X3_init_33, fGet_0, fGet_1, fGet_2, fGet_3, fGet_4, fGet_5, fGet_6, fGet_7, fGet_8, fGet_9, fGet_10, fGet_11, fGet_12, fGet_13, fGet_14, fGet_15, fGet_16, fGet_17, fGet_18, fOk_0, fOk_1, fOk_2, fOk_3, fOk_4, fOk_5, fOk_6, fOk_7, fOk_8, fOk_9, fOk_10, fOk_11, fOk_12, fOk_13, fOk_14, fOk_15, fOk_16, fOk_17, fOk_18, fSet_0, fSet_1, fSet_2, fSet_3, fSet_4, fSet_5, fSet_6, fSet_7, fSet_8, fSet_9, fSet_10, fSet_11, fSet_12, fSet_13, fSet_14, fSet_15, fSet_16, fSet_17, fSet_18, bkIs_e, rIw_o, rL_o, rC_o, rD_o, rQ_o, bkIn_o, bkEl_o, bkUp_o, cats_n, cats_i, cats_r, cats_l, cats_d, kl_i, kl_r, kl_n, kl_l, kl_d, rI_w, ok_b0, ok_b1, ile_0_1, ile_1_0, true_or, or_true, bkK_v, bkK_0, wr_q, Nat.add_eq_left, Nat.left_eq_add, Nat.add_left_cancel_iff, Nat.reduceEqDiff, reduceIte, Nat.reduceEqDiff, nz_1, nz_2, nz_3, nz_4, nz_5, nz_6, nz_7, nz_8, nz_9, nz_10, nz_11, nz_12, true_and, and_true, Nat.reduceAdd, Nat.zero_add, Nat.add_zero, Nat.le_refl, Nat.reduceLeDiff, Nat.zero_le, not_true_eq_false, not_false_eq_true, false_implies, true_implies, implies_true, h0, Nat.add_assoc, bkK_x (M := gX3_init) rfl, show mC gX3_init = 3 from rfl, show mS gX3_init = 90 from rfl]
  refine hP _ ⟨?_, ?_, ?_, ?_⟩ ?_
  · simp [wr_q]; rfl
  · simp [wr_q]
  · simp [wr_q]
  · simp [wr_q]
  · exact ((((((Same.rf.wr (by omega)).wr (by omega)).wr (by omega)).wr (by omega)).wr (by omega)).wr (by omega)).wr (by omega)
