/-! 36: the least length of all places -/
theorem pls_o {S : CA} {P w l : Nat → Nat} {ro t : Nat} (hC : CutOK S P w l ro) (ht : t < 2 ^ S.ct) (h0 : 0 < t) : yOf P (t &&& (t - 1)) (P (low 10 t)) = pls P t := by
  funext b
  apply Bool.eq_iff_iff.mpr
  constructor
  · exact y_sub hC ht h0 (Nat.and_self _) b
  · intro h
    obtain ⟨k, a, c, d⟩ := pls_t.mp h
    unfold yOf
    apply Bool.or_eq_true_iff.mpr
    by_cases q : k = low 10 t
    · exact Or.inr (by rw [← d, q]; simp)
    · exact Or.inl (pls_t.mpr ⟨k, a, (o_bit hC ht h0).mpr ⟨c, q⟩, d⟩)
theorem o_even {S : CA} {P w l : Nat → Nat} {ro t u : Nat} (hC : CutOK S P w l ro) (ht : t < 2 ^ S.ct) (h0 : 0 < t) (hu : u &&& (t &&& (t - 1)) = u) : u % 2 = 0 ∧ u < t := by
  have tl := t_lt hC ht h0
  have hF := fin_and t tl h0
  constructor
  · by_cases q : u % 2 = 1
    · have : u.testBit 0 = true := by rw [Nat.testBit_zero]; simpa using q
      have := (o_bit hC ht h0).mp (sub_bit hu this)
      have h1 := this.1
      rw [Nat.testBit_zero] at h1
      have h1 : t % 2 = 1 := by simpa using h1
      have : low 10 t = 0 := by unfold low; rw [if_pos h1]
      omega
    · omega
  · have := Nat.and_le_right (n := u) (m := t &&& (t - 1))
    have := hF.2.2.1
    omega
theorem c_leastLength {G : bkG} {h : bkHS} {C : Nat} {S : CA} {P w l : Nat → Nat} {ro : Nat} (hI : IsCut h C S) (hC : CutOK S P w l ro) {Post : bkPo}
    (hP : ∀ h' bs ll v, IsCut h' C (S.bo, S.le, S.br, S.so, S.bl, bs, ll, S.ro, S.ct, S.fs, S.fl) → Lst w l ro (pls P (2 ^ S.ct - 1)) v → v ≤ 1000 * 1023 → Same h h' C 8 → Post (.inl (some (.int (nI v)))) h' none) : CM G gX1_leastLength [.ref C] h none Post := by
  obtain ⟨bo, le, br, so, bl, bs, ll, ro', n, fs, fl⟩ := S
  obtain ⟨i0, i1, i2, i3, i4, i5, i6, i7⟩ := id hI
  dsimp only [CA.bo, CA.le, CA.br, CA.so, CA.bl, CA.bs, CA.ll, CA.ro, CA.ct, CA.fs, CA.fl] at i0 i1 i2 i3 i4 i5 i6 i7 hP
  have hn : n ≤ 10 := hC.1
  have hp2 : 2 ^ n ≤ 1024 := Nat.pow_le_pow_right (n := 2) (by omega) hn
  have hp3 : 0 < 2 ^ n := Nat.pow_pos (by omega)
  have w0 : vp_in (0 : Int32) 1024 := vp_nI (k := 0) (by omega) (by omega)
  refine meth (lv := [some (.ref C), none, none]) ok_gX1_leastLength (by decide) rfl (Nat.le_of_ble_eq_true rfl) rfl ?_
  simp only [r_X1_leastLength_0, r_X1_leastLength_1, r_X1_leastLength_2, r_X1_leastLength_5, r_X1_leastLength_6, r_X1_leastLength_7, r_X1_leastLength_8, r_X1_leastLength_9, r_X1_leastLength_10, r_X1_leastLength_13, r_X1_leastLength_14, r_X1_leastLength_15, r_X1_leastLength_16, r_X1_leastLength_17, r_X1_leastLength_20, r_X1_leastLength_21, r_X1_leastLength_22, r_X1_leastLength_23, r_X1_leastLength_24, r_X1_leastLength_26, r_X1_leastLength_27, r_X1_leastLength_30, r_X1_leastLength_31, r_X1_leastLength_34, r_X1_leastLength_35, r_X1_leastLength_36, r_X1_leastLength_39, r_X1_leastLength_40, r_X1_leastLength_41, r_X1_leastLength_42, r_X1_leastLength_43, r_X1_leastLength_44, r_X1_leastLength_45, r_X1_leastLength_46, r_X1_leastLength_49, r_X1_leastLength_50, r_X1_leastLength_53, r_X1_leastLength_54, r_X1_leastLength_55, r_X1_leastLength_56, r_X1_leastLength_57, r_X1_leastLength_60, r_X1_leastLength_61, r_X1_leastLength_62, r_X1_leastLength_63, r_X1_leastLength_66, r_X1_leastLength_67, r_X1_leastLength_70, r_X1_leastLength_73, r_X1_leastLength_74, r_X1_leastLength_75, r_X1_leastLength_78, fGet_0, fGet_1, fGet_2, fGet_3, fGet_4, fGet_5, fGet_6, fGet_7, fGet_8, fGet_9, fGet_10, fGet_11, fGet_12, fGet_13, fGet_14, fGet_15, fGet_16, fGet_17, fGet_18, fOk_0, fOk_1, fOk_2, fOk_3, fOk_4, fOk_5, fOk_6, fOk_7, fOk_8, fOk_9, fOk_10, fOk_11, fOk_12, fOk_13, fOk_14, fOk_15, fOk_16, fOk_17, fOk_18, fSet_0, fSet_1, fSet_2, fSet_3, fSet_4, fSet_5, fSet_6, fSet_7, fSet_8, fSet_9, fSet_10, fSet_11, fSet_12, fSet_13, fSet_14, fSet_15, fSet_16, fSet_17, fSet_18, bkIs_e, rIw_o, rL_o, rC_o, rD_o, rQ_o, bkIn_o, bkEl_o, bkUp_o, cats_n, cats_i, cats_r, cats_l, cats_d, kl_i, kl_r, kl_n, kl_l, kl_d, rI_w, ok_b0, ok_b1, ile_0_1, ile_1_0, true_or, or_true, bkK_v, bkK_0, wr_q, Nat.add_eq_left, Nat.left_eq_add, Nat.add_left_cancel_iff, Nat.reduceEqDiff, reduceIte, Nat.reduceEqDiff, nz_1, nz_2, nz_3, nz_4, nz_5, nz_6, nz_7, nz_8, nz_9, nz_10, nz_11, nz_12, true_and, and_true, Nat.reduceAdd, Nat.zero_add, Nat.add_zero, Nat.le_refl, Nat.reduceLeDiff, Nat.zero_le, not_true_eq_false, not_false_eq_true, false_implies, true_implies, implies_true, i0, i6, i7, w0, fin_pow _ (show n < 11 by omega), mI_pred hp3, bkK_x (M := gX1_leastLength) rfl, show mC gX1_leastLength = 0 from rfl, show mS gX1_leastLength = 0 from rfl]
  have loop : ∀ d p h' bs ll, 2 ^ n ≤ 2 * d + p + 1 ∧ p ≤ 2 ^ n + 2 → p % 2 = 0 → 0 < p → IsCut h' C (bo, le, br, so, bl, bs, ll, ro', n, fs, fl) → (∀ u, u % 2 = 0 → u < p → TabAt bs ll P w l ro u) → Same h h' C 8 →
      wp G gX1_leastLength Post 25 [some (.ref C), some (.int (nI (2 ^ n - 1))), some (.int (nI p))] [] h' none 0 0 := by
    have fin : ∀ p h' bs ll, 2 ^ n - 1 ≤ p → p < 2000 → IsCut h' C (bo, le, br, so, bl, bs, ll, ro', n, fs, fl) → (∀ u, u % 2 = 0 → u < p → TabAt bs ll P w l ro u) → Same h h' C 8 →
        wp G gX1_leastLength Post 25 [some (.ref C), some (.int (nI (2 ^ n - 1))), some (.int (nI p))] [] h' none 0 0 := by
      intro p h' bs ll hp hp1 I T s
      have hC' : CutOK (bo, le, br, so, bl, bs, ll, ro', n, fs, fl) P w l ro := hC
      rw [r_X1_leastLength_25]
      simp only [r_X1_leastLength_0, r_X1_leastLength_1, r_X1_leastLength_2, r_X1_leastLength_5, r_X1_leastLength_6, r_X1_leastLength_7, r_X1_leastLength_8, r_X1_leastLength_9, r_X1_leastLength_10, r_X1_leastLength_13, r_X1_leastLength_14, r_X1_leastLength_15, r_X1_leastLength_16, r_X1_leastLength_17, r_X1_leastLength_20, r_X1_leastLength_21, r_X1_leastLength_22, r_X1_leastLength_23, r_X1_leastLength_24, r_X1_leastLength_26, r_X1_leastLength_27, r_X1_leastLength_31, r_X1_leastLength_34, r_X1_leastLength_35, r_X1_leastLength_36, r_X1_leastLength_39, r_X1_leastLength_40, r_X1_leastLength_41, r_X1_leastLength_42, r_X1_leastLength_43, r_X1_leastLength_44, r_X1_leastLength_45, r_X1_leastLength_46, r_X1_leastLength_49, r_X1_leastLength_50, r_X1_leastLength_53, r_X1_leastLength_54, r_X1_leastLength_55, r_X1_leastLength_56, r_X1_leastLength_57, r_X1_leastLength_60, r_X1_leastLength_61, r_X1_leastLength_62, r_X1_leastLength_63, r_X1_leastLength_66, r_X1_leastLength_67, r_X1_leastLength_70, r_X1_leastLength_73, r_X1_leastLength_74, r_X1_leastLength_75, r_X1_leastLength_78, fGet_0, fGet_1, fGet_2, fGet_3, fGet_4, fGet_5, fGet_6, fGet_7, fGet_8, fGet_9, fGet_10, fGet_11, fGet_12, fGet_13, fGet_14, fGet_15, fGet_16, fGet_17, fGet_18, fOk_0, fOk_1, fOk_2, fOk_3, fOk_4, fOk_5, fOk_6, fOk_7, fOk_8, fOk_9, fOk_10, fOk_11, fOk_12, fOk_13, fOk_14, fOk_15, fOk_16, fOk_17, fOk_18, fSet_0, fSet_1, fSet_2, fSet_3, fSet_4, fSet_5, fSet_6, fSet_7, fSet_8, fSet_9, fSet_10, fSet_11, fSet_12, fSet_13, fSet_14, fSet_15, fSet_16, fSet_17, fSet_18, bkIs_e, rIw_o, rL_o, rC_o, rD_o, rQ_o, bkIn_o, bkEl_o, bkUp_o, cats_n, cats_i, cats_r, cats_l, cats_d, kl_i, kl_r, kl_n, kl_l, kl_d, rI_w, ok_b0, ok_b1, ile_0_1, ile_1_0, true_or, or_true, bkK_v, bkK_0, wr_q, Nat.add_eq_left, Nat.left_eq_add, Nat.add_left_cancel_iff, Nat.reduceEqDiff, reduceIte, Nat.reduceEqDiff, nz_1, nz_2, nz_3, nz_4, nz_5, nz_6, nz_7, nz_8, nz_9, nz_10, nz_11, nz_12, true_and, and_true, Nat.reduceAdd, Nat.zero_add, Nat.add_zero, Nat.le_refl, Nat.reduceLeDiff, Nat.zero_le, not_true_eq_false, not_false_eq_true, false_implies, true_implies, implies_true, I.1, mI_le (show 2 ^ n - 1 < 2147483648 by omega) (show p < 2147483648 by omega), hp, bkK_x (M := gX1_leastLength) rfl, show mC gX1_leastLength = 0 from rfl, show mS gX1_leastLength = 0 from rfl]
      refine c_leastLengthOf I hC' (t := 2 ^ n - 1) (by dsimp only [CA.bo, CA.le, CA.br, CA.so, CA.bl, CA.bs, CA.ll, CA.ro, CA.ct, CA.fs, CA.fl]; omega) (fun h0 u hu => ?_) fun v L b => ?_
      · have := o_even hC' (t := 2 ^ n - 1) (by dsimp only [CA.bo, CA.le, CA.br, CA.so, CA.bl, CA.bs, CA.ll, CA.ro, CA.ct, CA.fs, CA.fl]; omega) h0 hu
        exact T u this.1 (by omega)
      · simp only [r_X1_leastLength_0, r_X1_leastLength_1, r_X1_leastLength_2, r_X1_leastLength_5, r_X1_leastLength_6, r_X1_leastLength_7, r_X1_leastLength_8, r_X1_leastLength_9, r_X1_leastLength_10, r_X1_leastLength_13, r_X1_leastLength_14, r_X1_leastLength_15, r_X1_leastLength_16, r_X1_leastLength_17, r_X1_leastLength_20, r_X1_leastLength_21, r_X1_leastLength_22, r_X1_leastLength_23, r_X1_leastLength_24, r_X1_leastLength_26, r_X1_leastLength_27, r_X1_leastLength_31, r_X1_leastLength_34, r_X1_leastLength_35, r_X1_leastLength_36, r_X1_leastLength_39, r_X1_leastLength_40, r_X1_leastLength_41, r_X1_leastLength_42, r_X1_leastLength_43, r_X1_leastLength_44, r_X1_leastLength_45, r_X1_leastLength_46, r_X1_leastLength_49, r_X1_leastLength_50, r_X1_leastLength_53, r_X1_leastLength_54, r_X1_leastLength_55, r_X1_leastLength_56, r_X1_leastLength_57, r_X1_leastLength_60, r_X1_leastLength_61, r_X1_leastLength_62, r_X1_leastLength_63, r_X1_leastLength_66, r_X1_leastLength_67, r_X1_leastLength_70, r_X1_leastLength_73, r_X1_leastLength_74, r_X1_leastLength_75, r_X1_leastLength_78, fGet_0, fGet_1, fGet_2, fGet_3, fGet_4, fGet_5, fGet_6, fGet_7, fGet_8, fGet_9, fGet_10, fGet_11, fGet_12, fGet_13, fGet_14, fGet_15, fGet_16, fGet_17, fGet_18, fOk_0, fOk_1, fOk_2, fOk_3, fOk_4, fOk_5, fOk_6, fOk_7, fOk_8, fOk_9, fOk_10, fOk_11, fOk_12, fOk_13, fOk_14, fOk_15, fOk_16, fOk_17, fOk_18, fSet_0, fSet_1, fSet_2, fSet_3, fSet_4, fSet_5, fSet_6, fSet_7, fSet_8, fSet_9, fSet_10, fSet_11, fSet_12, fSet_13, fSet_14, fSet_15, fSet_16, fSet_17, fSet_18, bkIs_e, rIw_o, rL_o, rC_o, rD_o, rQ_o, bkIn_o, bkEl_o, bkUp_o, cats_n, cats_i, cats_r, cats_l, cats_d, kl_i, kl_r, kl_n, kl_l, kl_d, rI_w, ok_b0, ok_b1, ile_0_1, ile_1_0, true_or, or_true, bkK_v, bkK_0, wr_q, Nat.add_eq_left, Nat.left_eq_add, Nat.add_left_cancel_iff, Nat.reduceEqDiff, reduceIte, Nat.reduceEqDiff, nz_1, nz_2, nz_3, nz_4, nz_5, nz_6, nz_7, nz_8, nz_9, nz_10, nz_11, nz_12, true_and, and_true, Nat.reduceAdd, Nat.zero_add, Nat.add_zero, Nat.le_refl, Nat.reduceLeDiff, Nat.zero_le, not_true_eq_false, not_false_eq_true, false_implies, true_implies, implies_true, bkK_x (M := gX1_leastLength) rfl, show mC gX1_leastLength = 0 from rfl, show mS gX1_leastLength = 0 from rfl]
        exact hP _ bs ll v I L (by omega) s
    intro d
    induction d with
    | zero =>
      intro p h' bs ll hd he h0 I T s
      exact fin p h' bs ll (by omega) (by omega) I T s
    | succ d ih =>
      intro p h' bs ll hd he h0 I T s
      by_cases q : 2 ^ n - 1 ≤ p
      · exact fin p h' bs ll q (by omega) I T s
      have hC' : CutOK (bo, le, br, so, bl, bs, ll, ro', n, fs, fl) P w l ro := hC
      have ht : p < 2 ^ n := by omega
      have tl := t_lt hC' ht h0
      have hq := q_lt hC' ht h0
      have hF := fin_and p tl h0
      obtain ⟨cp1, cp2, cp3, cp4, cp5⟩ := hC'.2.2.2.1 _ hq
      dsimp only [CA.bo, CA.le, CA.br, CA.so, CA.bl, CA.bs, CA.ll, CA.ro, CA.ct, CA.fs, CA.fl] at cp2 cp3
      have hoe := o_even hC' ht h0 (Nat.and_self _)
      obtain ⟨v0, s1, _, _, _⟩ := T _ hoe.1 hoe.2
      obtain ⟨i0, i1, i2, i3, i4, i5, i6, i7⟩ := id I
      dsimp only [CA.bo, CA.le, CA.br, CA.so, CA.bl, CA.bs, CA.ll, CA.ro, CA.ct, CA.fs, CA.fl] at i0 i1 i2 i3 i4 i5 i6 i7
      have w1 : vp_in (nI (low 10 p)) 10 := vp_nI hF.1 (by omega)
      have w2 : vp_in (nI (p &&& (p - 1))) 1024 := vp_nI (by omega) (by omega)
      have w3 : vp_in (nI p) 1024 := vp_nI (by omega) (by omega)
      have hs := y_sum hC' ht h0 (u := p &&& (p - 1)) (Nat.and_self _)
      rw [pls_o hC' ht h0] at hs
      rw [r_X1_leastLength_25]
      simp only [r_X1_leastLength_0, r_X1_leastLength_1, r_X1_leastLength_2, r_X1_leastLength_5, r_X1_leastLength_6, r_X1_leastLength_7, r_X1_leastLength_8, r_X1_leastLength_9, r_X1_leastLength_10, r_X1_leastLength_13, r_X1_leastLength_14, r_X1_leastLength_15, r_X1_leastLength_16, r_X1_leastLength_17, r_X1_leastLength_20, r_X1_leastLength_21, r_X1_leastLength_22, r_X1_leastLength_23, r_X1_leastLength_24, r_X1_leastLength_26, r_X1_leastLength_27, r_X1_leastLength_30, r_X1_leastLength_31, r_X1_leastLength_34, r_X1_leastLength_35, r_X1_leastLength_36, r_X1_leastLength_39, r_X1_leastLength_40, r_X1_leastLength_41, r_X1_leastLength_42, r_X1_leastLength_43, r_X1_leastLength_44, r_X1_leastLength_45, r_X1_leastLength_46, r_X1_leastLength_49, r_X1_leastLength_50, r_X1_leastLength_53, r_X1_leastLength_54, r_X1_leastLength_55, r_X1_leastLength_56, r_X1_leastLength_57, r_X1_leastLength_60, r_X1_leastLength_61, r_X1_leastLength_62, r_X1_leastLength_63, r_X1_leastLength_66, r_X1_leastLength_67, r_X1_leastLength_70, r_X1_leastLength_73, r_X1_leastLength_74, r_X1_leastLength_75, r_X1_leastLength_78, fGet_0, fGet_1, fGet_2, fGet_3, fGet_4, fGet_5, fGet_6, fGet_7, fGet_8, fGet_9, fGet_10, fGet_11, fGet_12, fGet_13, fGet_14, fGet_15, fGet_16, fGet_17, fGet_18, fOk_0, fOk_1, fOk_2, fOk_3, fOk_4, fOk_5, fOk_6, fOk_7, fOk_8, fOk_9, fOk_10, fOk_11, fOk_12, fOk_13, fOk_14, fOk_15, fOk_16, fOk_17, fOk_18, fSet_0, fSet_1, fSet_2, fSet_3, fSet_4, fSet_5, fSet_6, fSet_7, fSet_8, fSet_9, fSet_10, fSet_11, fSet_12, fSet_13, fSet_14, fSet_15, fSet_16, fSet_17, fSet_18, bkIs_e, rIw_o, rL_o, rC_o, rD_o, rQ_o, bkIn_o, bkEl_o, bkUp_o, cats_n, cats_i, cats_r, cats_l, cats_d, kl_i, kl_r, kl_n, kl_l, kl_d, rI_w, ok_b0, ok_b1, ile_0_1, ile_1_0, true_or, or_true, bkK_v, bkK_0, wr_q, Nat.add_eq_left, Nat.left_eq_add, Nat.add_left_cancel_iff, Nat.reduceEqDiff, reduceIte, Nat.reduceEqDiff, nz_1, nz_2, nz_3, nz_4, nz_5, nz_6, nz_7, nz_8, nz_9, nz_10, nz_11, nz_12, true_and, and_true, Nat.reduceAdd, Nat.zero_add, Nat.add_zero, Nat.le_refl, Nat.reduceLeDiff, Nat.zero_le, not_true_eq_false, not_false_eq_true, false_implies, true_implies, implies_true, i0, i6, rI_o i6, w2, w3, mI_pred h0, mI_and, mI_nat (show p &&& (p - 1) < 2147483648 by omega), mI_le (show 2 ^ n - 1 < 2147483648 by omega) (show p < 2147483648 by omega), q, bkK_x (M := gX1_leastLength) rfl, show mC gX1_leastLength = 0 from rfl, show mS gX1_leastLength = 0 from rfl]
      refine c_longestOf tl h0 ?_
      simp only [r_X1_leastLength_0, r_X1_leastLength_1, r_X1_leastLength_2, r_X1_leastLength_5, r_X1_leastLength_6, r_X1_leastLength_7, r_X1_leastLength_8, r_X1_leastLength_9, r_X1_leastLength_10, r_X1_leastLength_13, r_X1_leastLength_14, r_X1_leastLength_15, r_X1_leastLength_16, r_X1_leastLength_17, r_X1_leastLength_20, r_X1_leastLength_21, r_X1_leastLength_22, r_X1_leastLength_23, r_X1_leastLength_24, r_X1_leastLength_26, r_X1_leastLength_27, r_X1_leastLength_30, r_X1_leastLength_31, r_X1_leastLength_34, r_X1_leastLength_35, r_X1_leastLength_36, r_X1_leastLength_39, r_X1_leastLength_40, r_X1_leastLength_41, r_X1_leastLength_42, r_X1_leastLength_43, r_X1_leastLength_44, r_X1_leastLength_45, r_X1_leastLength_46, r_X1_leastLength_49, r_X1_leastLength_50, r_X1_leastLength_53, r_X1_leastLength_54, r_X1_leastLength_55, r_X1_leastLength_56, r_X1_leastLength_57, r_X1_leastLength_60, r_X1_leastLength_61, r_X1_leastLength_62, r_X1_leastLength_63, r_X1_leastLength_66, r_X1_leastLength_67, r_X1_leastLength_70, r_X1_leastLength_73, r_X1_leastLength_74, r_X1_leastLength_75, r_X1_leastLength_78, fGet_0, fGet_1, fGet_2, fGet_3, fGet_4, fGet_5, fGet_6, fGet_7, fGet_8, fGet_9, fGet_10, fGet_11, fGet_12, fGet_13, fGet_14, fGet_15, fGet_16, fGet_17, fGet_18, fOk_0, fOk_1, fOk_2, fOk_3, fOk_4, fOk_5, fOk_6, fOk_7, fOk_8, fOk_9, fOk_10, fOk_11, fOk_12, fOk_13, fOk_14, fOk_15, fOk_16, fOk_17, fOk_18, fSet_0, fSet_1, fSet_2, fSet_3, fSet_4, fSet_5, fSet_6, fSet_7, fSet_8, fSet_9, fSet_10, fSet_11, fSet_12, fSet_13, fSet_14, fSet_15, fSet_16, fSet_17, fSet_18, bkIs_e, rIw_o, rL_o, rC_o, rD_o, rQ_o, bkIn_o, bkEl_o, bkUp_o, cats_n, cats_i, cats_r, cats_l, cats_d, kl_i, kl_r, kl_n, kl_l, kl_d, rI_w, ok_b0, ok_b1, ile_0_1, ile_1_0, true_or, or_true, bkK_v, bkK_0, wr_q, Nat.add_eq_left, Nat.left_eq_add, Nat.add_left_cancel_iff, Nat.reduceEqDiff, reduceIte, Nat.reduceEqDiff, nz_1, nz_2, nz_3, nz_4, nz_5, nz_6, nz_7, nz_8, nz_9, nz_10, nz_11, nz_12, true_and, and_true, Nat.reduceAdd, Nat.zero_add, Nat.add_zero, Nat.le_refl, Nat.reduceLeDiff, Nat.zero_le, not_true_eq_false, not_false_eq_true, false_implies, true_implies, implies_true, i0, i3, i6, i7, rI_o i3, w1, w2, w3, mI_nat (show p < 2147483648 by omega), mI_nat (show low 10 p < 2147483648 by omega), cp3, s1, mI_add, bkK_x (M := gX1_leastLength) rfl, show mC gX1_leastLength = 0 from rfl, show mS gX1_leastLength = 0 from rfl]
      rw [← hs]
      have I1 : IsCut (wr h' (C + 6) (Sum.inr (Sum.inl (1024, va_up bs p (nI (sumB w (pls P p) 10)))))) C (bo, le, br, so, bl, va_up bs p (nI (sumB w (pls P p) 10)), ll, ro', n, fs, fl) := by
        refine ⟨?_, ?_, ?_, ?_, ?_, ?_, ?_, ?_⟩
        · simp [wr_q]; exact i0
        · simp [wr_q]; exact i1
        · simp [wr_q]; exact i2
        · simp [wr_q]; exact i3
        · simp [wr_q]; exact i4
        · simp [wr_q]; exact i5
        · simp [wr_q]
        · simp [wr_q]; exact i7
      have hC1 : CutOK (bo, le, br, so, bl, va_up bs p (nI (sumB w (pls P p) 10)), ll, ro', n, fs, fl) P w l ro := hC
      refine c_leastLengthOf I1 hC1 ht (fun _ u hu => ?_) fun v L b => ?_
      · have := o_even hC' ht h0 hu
        obtain ⟨v', a1, a2, a3, a4⟩ := T u this.1 this.2
        exact ⟨v', (if_neg (by omega)).trans a1, a2, a3, a4⟩
      · simp only [r_X1_leastLength_0, r_X1_leastLength_1, r_X1_leastLength_2, r_X1_leastLength_5, r_X1_leastLength_6, r_X1_leastLength_7, r_X1_leastLength_8, r_X1_leastLength_9, r_X1_leastLength_10, r_X1_leastLength_13, r_X1_leastLength_14, r_X1_leastLength_15, r_X1_leastLength_16, r_X1_leastLength_17, r_X1_leastLength_20, r_X1_leastLength_21, r_X1_leastLength_22, r_X1_leastLength_23, r_X1_leastLength_24, r_X1_leastLength_26, r_X1_leastLength_27, r_X1_leastLength_30, r_X1_leastLength_31, r_X1_leastLength_34, r_X1_leastLength_35, r_X1_leastLength_36, r_X1_leastLength_39, r_X1_leastLength_40, r_X1_leastLength_41, r_X1_leastLength_42, r_X1_leastLength_43, r_X1_leastLength_44, r_X1_leastLength_45, r_X1_leastLength_46, r_X1_leastLength_49, r_X1_leastLength_50, r_X1_leastLength_53, r_X1_leastLength_54, r_X1_leastLength_55, r_X1_leastLength_56, r_X1_leastLength_57, r_X1_leastLength_60, r_X1_leastLength_61, r_X1_leastLength_62, r_X1_leastLength_63, r_X1_leastLength_66, r_X1_leastLength_67, r_X1_leastLength_70, r_X1_leastLength_73, r_X1_leastLength_74, r_X1_leastLength_75, r_X1_leastLength_78, fGet_0, fGet_1, fGet_2, fGet_3, fGet_4, fGet_5, fGet_6, fGet_7, fGet_8, fGet_9, fGet_10, fGet_11, fGet_12, fGet_13, fGet_14, fGet_15, fGet_16, fGet_17, fGet_18, fOk_0, fOk_1, fOk_2, fOk_3, fOk_4, fOk_5, fOk_6, fOk_7, fOk_8, fOk_9, fOk_10, fOk_11, fOk_12, fOk_13, fOk_14, fOk_15, fOk_16, fOk_17, fOk_18, fSet_0, fSet_1, fSet_2, fSet_3, fSet_4, fSet_5, fSet_6, fSet_7, fSet_8, fSet_9, fSet_10, fSet_11, fSet_12, fSet_13, fSet_14, fSet_15, fSet_16, fSet_17, fSet_18, bkIs_e, rIw_o, rL_o, rC_o, rD_o, rQ_o, bkIn_o, bkEl_o, bkUp_o, cats_n, cats_i, cats_r, cats_l, cats_d, kl_i, kl_r, kl_n, kl_l, kl_d, rI_w, ok_b0, ok_b1, ile_0_1, ile_1_0, true_or, or_true, bkK_v, bkK_0, wr_q, Nat.add_eq_left, Nat.left_eq_add, Nat.add_left_cancel_iff, Nat.reduceEqDiff, reduceIte, Nat.reduceEqDiff, nz_1, nz_2, nz_3, nz_4, nz_5, nz_6, nz_7, nz_8, nz_9, nz_10, nz_11, nz_12, true_and, and_true, Nat.reduceAdd, Nat.zero_add, Nat.add_zero, Nat.le_refl, Nat.reduceLeDiff, Nat.zero_le, not_true_eq_false, not_false_eq_true, false_implies, true_implies, implies_true, i7, w3, mI_nat (show p < 2147483648 by omega), mI_a2, bkK_x (M := gX1_leastLength) rfl, show mC gX1_leastLength = 0 from rfl, show mS gX1_leastLength = 0 from rfl]
        refine ih (p + 2) _ (va_up bs p (nI (sumB w (pls P p) 10))) (va_up ll p (nI v)) ⟨by omega, by omega⟩ (by omega) (by omega) ⟨?_, ?_, ?_, ?_, ?_, ?_, ?_, ?_⟩ (fun u hu hlt => ?_) ((s.wr (by omega)).wr (by omega))
        · simp [wr_q]; exact i0
        · simp [wr_q]; exact i1
        · simp [wr_q]; exact i2
        · simp [wr_q]; exact i3
        · simp [wr_q]; exact i4
        · simp [wr_q]; exact i5
        · simp [wr_q]
        · simp [wr_q]
        · by_cases e : u = p
          · subst e
            exact ⟨v, if_pos rfl, if_pos rfl, L, b⟩
          · obtain ⟨v', a1, a2, a3, a4⟩ := T u hu (by omega)
            exact ⟨v', (if_neg e).trans a1, (if_neg e).trans a2, a3, a4⟩
  refine loop (2 ^ n) 2 _ (va_up bs 0 0) (va_up ll 0 0) ⟨by omega, by omega⟩ (by omega) (by omega) ⟨?_, ?_, ?_, ?_, ?_, ?_, ?_, ?_⟩ (fun u hu hlt => ?_) ((Same.rf.wr (by omega)).wr (by omega))
  · simp [wr_q]; exact i0
  · simp [wr_q]; exact i1
  · simp [wr_q]; exact i2
  · simp [wr_q]; exact i3
  · simp [wr_q]; exact i4
  · simp [wr_q]; exact i5
  · simp [wr_q]
  · simp [wr_q]
  · obtain rfl : u = 0 := by omega
    refine ⟨0, ?_, if_pos rfl, lst_empty (pls_0 P), by omega⟩
    have z0 : sumB w (pls P 0) 10 = 0 := by
      have := sumB_le (w := w) (X := pls P 0) (B := 0) 10 fun b _ hb => by rw [pls_0] at hb; exact absurd hb (by decide)
      omega
    rw [z0]; exact if_pos rfl
