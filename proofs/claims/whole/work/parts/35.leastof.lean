/-! 35: the least length of a mask of places -/
theorem u_least1 {G : bkG} {h : bkHS} {C : Nat} {S : CA} {P w l : Nat → Nat} {ro t : Nat} (hI : IsCut h C S) (hC : CutOK S P w l ro) (ht : t < 2 ^ S.ct) (h0 : 0 < t) (hT : ∀ u, u &&& (t &&& (t - 1)) = u → TabAt S.bs S.ll P w l ro u) {Post : bkPo}
    (hP : ∀ v, Lst w l ro (pls P t) v → v ≤ 1000 * t → Post (.inl (some (.int (nI v)))) h none) : ∀ d i vb x, i + d = 2 ^ pop 10 (t &&& (t - 1)) → (i < 2 ^ pop 10 (t &&& (t - 1)) → x = nI (dep 10 (t &&& (t - 1)) (2 ^ pop 10 (t &&& (t - 1)) - 1 - i))) → vb ≤ 1000 * t →
    (∃ Y u, sbs Y (pls P t) ∧ Fit w ro Y ∧ Lst w l ro (dif (pls P t) Y) u ∧ vb = maxB l Y 10 + u) →
    (∀ r, 2 ^ pop 10 (t &&& (t - 1)) ≤ r + i → r < 2 ^ pop 10 (t &&& (t - 1)) → w (P (low 10 t)) + sumB w (pls P (dep 10 (t &&& (t - 1)) r)) 10 ≤ ro → ∀ u, Lst w l ro (pls P ((t &&& (t - 1)) ^^^ dep 10 (t &&& (t - 1)) r)) u → vb ≤ l (P (low 10 t)) + u) →
    wp G gX1_leastLengthOf Post 46 [some (.ref C), some (.int (nI t)), some (.int (nI (low 10 t))), some (.int (nI (t &&& (t - 1)))), some (.int (nI vb)), some (.int x), some (.int (nI (2 ^ pop 10 (t &&& (t - 1))))), some (.int (nI i))] [] h none 0 0 := by
  have tl := t_lt hC ht h0
  have hq := q_lt hC ht h0
  have hF := fin_and t tl h0
  have ho : (t &&& (t - 1)) < 1024 := by omega
  have hpp : pop 10 (t &&& (t - 1)) ≤ 10 := by
    have : ∀ o : Nat, o < 1024 → pop 10 o ≤ 10 := by decide +kernel
    exact this _ ho
  have hp2 : 2 ^ pop 10 (t &&& (t - 1)) ≤ 1024 := Nat.pow_le_pow_right (n := 2) (by omega) hpp
  obtain ⟨cp1, cp2, cp3, cp4, cp5⟩ := hC.2.2.2.1 _ hq
  have hro := hC.2.2.1
  intro d
  induction d with
  | zero =>
    intro i vb x hi hx hv hA hB
    have hi : i = 2 ^ pop 10 (t &&& (t - 1)) := by omega
    rw [r_X1_leastLengthOf_46]
    simp only [r_X1_leastLengthOf_0, r_X1_leastLengthOf_1, r_X1_leastLengthOf_4, r_X1_leastLengthOf_5, r_X1_leastLengthOf_6, r_X1_leastLengthOf_7, r_X1_leastLengthOf_10, r_X1_leastLengthOf_11, r_X1_leastLengthOf_12, r_X1_leastLengthOf_13, r_X1_leastLengthOf_14, r_X1_leastLengthOf_15, r_X1_leastLengthOf_16, r_X1_leastLengthOf_17, r_X1_leastLengthOf_18, r_X1_leastLengthOf_21, r_X1_leastLengthOf_22, r_X1_leastLengthOf_23, r_X1_leastLengthOf_24, r_X1_leastLengthOf_27, r_X1_leastLengthOf_28, r_X1_leastLengthOf_29, r_X1_leastLengthOf_30, r_X1_leastLengthOf_32, r_X1_leastLengthOf_33, r_X1_leastLengthOf_35, r_X1_leastLengthOf_36, r_X1_leastLengthOf_37, r_X1_leastLengthOf_40, r_X1_leastLengthOf_41, r_X1_leastLengthOf_43, r_X1_leastLengthOf_44, r_X1_leastLengthOf_48, r_X1_leastLengthOf_50, r_X1_leastLengthOf_54, r_X1_leastLengthOf_57, r_X1_leastLengthOf_58, r_X1_leastLengthOf_59, r_X1_leastLengthOf_60, r_X1_leastLengthOf_63, r_X1_leastLengthOf_65, r_X1_leastLengthOf_66, r_X1_leastLengthOf_67, r_X1_leastLengthOf_68, r_X1_leastLengthOf_71, r_X1_leastLengthOf_74, r_X1_leastLengthOf_76, r_X1_leastLengthOf_77, r_X1_leastLengthOf_80, r_X1_leastLengthOf_81, r_X1_leastLengthOf_82, r_X1_leastLengthOf_83, r_X1_leastLengthOf_86, r_X1_leastLengthOf_87, r_X1_leastLengthOf_89, r_X1_leastLengthOf_90, r_X1_leastLengthOf_91, r_X1_leastLengthOf_92, r_X1_leastLengthOf_95, r_X1_leastLengthOf_97, r_X1_leastLengthOf_99, r_X1_leastLengthOf_100, r_X1_leastLengthOf_101, r_X1_leastLengthOf_102, r_X1_leastLengthOf_103, r_X1_leastLengthOf_105, r_X1_leastLengthOf_108, r_X1_leastLengthOf_111, r_X1_leastLengthOf_113, fGet_0, fGet_1, fGet_2, fGet_3, fGet_4, fGet_5, fGet_6, fGet_7, fGet_8, fGet_9, fGet_10, fGet_11, fGet_12, fGet_13, fGet_14, fGet_15, fGet_16, fGet_17, fGet_18, fOk_0, fOk_1, fOk_2, fOk_3, fOk_4, fOk_5, fOk_6, fOk_7, fOk_8, fOk_9, fOk_10, fOk_11, fOk_12, fOk_13, fOk_14, fOk_15, fOk_16, fOk_17, fOk_18, fSet_0, fSet_1, fSet_2, fSet_3, fSet_4, fSet_5, fSet_6, fSet_7, fSet_8, fSet_9, fSet_10, fSet_11, fSet_12, fSet_13, fSet_14, fSet_15, fSet_16, fSet_17, fSet_18, bkIs_e, rIw_o, rL_o, rC_o, rD_o, rQ_o, bkIn_o, bkEl_o, bkUp_o, cats_n, cats_i, cats_r, cats_l, cats_d, kl_i, kl_r, kl_n, kl_l, kl_d, rI_w, ok_b0, ok_b1, ile_0_1, ile_1_0, true_or, or_true, bkK_v, bkK_0, wr_q, Nat.add_eq_left, Nat.left_eq_add, Nat.add_left_cancel_iff, Nat.reduceEqDiff, reduceIte, Nat.reduceEqDiff, nz_1, nz_2, nz_3, nz_4, nz_5, nz_6, nz_7, nz_8, nz_9, nz_10, nz_11, nz_12, true_and, and_true, Nat.reduceAdd, Nat.zero_add, Nat.add_zero, Nat.le_refl, Nat.reduceLeDiff, Nat.zero_le, not_true_eq_false, not_false_eq_true, false_implies, true_implies, implies_true, mI_le (show 2 ^ pop 10 (t &&& (t - 1)) < 2147483648 by omega) (show i < 2147483648 by omega), show 2 ^ pop 10 (t &&& (t - 1)) ≤ i by omega, bkK_x (M := gX1_leastLengthOf) rfl, show mC gX1_leastLengthOf = 0 from rfl, show mS gX1_leastLengthOf = 0 from rfl]
    refine hP vb (lst_rec (x := P (low 10 t)) (y_sub hC ht h0 (u := 0) (by simp) _ (by unfold yOf; simp)) hA fun Y h1 h2 h3 => ?_) hv
    obtain ⟨u, e1, rfl⟩ := y_all hC ht h0 h1 h2
    obtain ⟨r, r1, r2⟩ := dep_sub 10 (t &&& (t - 1)) u (by omega) e1
    have e2 : ((t &&& (t - 1)) ^^^ u) &&& (t &&& (t - 1)) = (t &&& (t - 1)) ^^^ u := by
      apply bit_eq
      intro k
      rw [Nat.testBit_and, Nat.testBit_xor]
      cases a : u.testBit k with
      | false => cases (t &&& (t - 1)).testBit k <;> rfl
      | true => rw [sub_bit e1 a]; rfl
    obtain ⟨v', _, _, L, _⟩ := hT _ e2
    refine ⟨v', ?_, ?_⟩
    · rw [y_dif hC ht h0 e1]; exact L
    · rw [y_max hC ht h0 e1]
      refine hB r (by omega) r1 ?_ v' (by rw [r2]; exact L)
      rw [r2]
      unfold Fit at h3
      rw [y_sum hC ht h0 e1] at h3
      omega
  | succ d ih =>
    intro i vb x hi hx hv hA hB
    have hx := hx (by omega)
    subst hx
    generalize hr : 2 ^ pop 10 (t &&& (t - 1)) - 1 - i = r at *
    have e1 := dep_and 10 (t &&& (t - 1)) r
    generalize hu : dep 10 (t &&& (t - 1)) r = u at *
    have e2 : ((t &&& (t - 1)) ^^^ u) &&& (t &&& (t - 1)) = (t &&& (t - 1)) ^^^ u := by
      apply bit_eq
      intro k
      rw [Nat.testBit_and, Nat.testBit_xor]
      cases a : u.testBit k with
      | false => cases (t &&& (t - 1)).testBit k <;> rfl
      | true => rw [sub_bit e1 a]; rfl
    have hul : u < 1024 := by have := Nat.and_le_right (n := u) (m := t &&& (t - 1)); omega
    have hol : (t &&& (t - 1)) ^^^ u < 1024 := Nat.xor_lt_two_pow (n := 10) (by omega) (by omega)
    obtain ⟨v1, s1, _, _, _⟩ := hT u e1
    obtain ⟨v2, _, s2, L2, b2⟩ := hT _ e2
    obtain ⟨i0, i1, i2, i3, i4, i5, i6, i7⟩ := id hI
    have w1 : vp_in (nI (low 10 t)) 10 := vp_nI hF.1 (by omega)
    have w2 : vp_in (nI u) 1024 := vp_nI hul (by omega)
    have w3 : vp_in (nI ((t &&& (t - 1)) ^^^ u)) 1024 := vp_nI hol (by omega)
    have hsb : sumB w (pls P u) 10 ≤ 5000 * 10 := sumB_le 10 fun b _ hb => by
      obtain ⟨k, a, c, e⟩ := pls_t.mp hb
      have := hC.2.2.2.1 k (bit_lt ht ((o_bit hC ht h0).mp (sub_bit e1 c)).1)
      rw [← e]
      have := hC.2.2.1
      omega
    have hxt : (t &&& (t - 1)) ^^^ u ≤ t - 1 := by
      have := Nat.and_le_right (n := (t &&& (t - 1)) ^^^ u) (m := t &&& (t - 1))
      have := hF.2.2.1
      omega
    rw [r_X1_leastLengthOf_46]
    simp only [r_X1_leastLengthOf_0, r_X1_leastLengthOf_1, r_X1_leastLengthOf_4, r_X1_leastLengthOf_5, r_X1_leastLengthOf_6, r_X1_leastLengthOf_7, r_X1_leastLengthOf_10, r_X1_leastLengthOf_11, r_X1_leastLengthOf_12, r_X1_leastLengthOf_13, r_X1_leastLengthOf_14, r_X1_leastLengthOf_15, r_X1_leastLengthOf_16, r_X1_leastLengthOf_17, r_X1_leastLengthOf_18, r_X1_leastLengthOf_21, r_X1_leastLengthOf_22, r_X1_leastLengthOf_23, r_X1_leastLengthOf_24, r_X1_leastLengthOf_27, r_X1_leastLengthOf_28, r_X1_leastLengthOf_29, r_X1_leastLengthOf_30, r_X1_leastLengthOf_32, r_X1_leastLengthOf_33, r_X1_leastLengthOf_35, r_X1_leastLengthOf_36, r_X1_leastLengthOf_37, r_X1_leastLengthOf_40, r_X1_leastLengthOf_41, r_X1_leastLengthOf_43, r_X1_leastLengthOf_44, r_X1_leastLengthOf_48, r_X1_leastLengthOf_50, r_X1_leastLengthOf_53, r_X1_leastLengthOf_54, r_X1_leastLengthOf_57, r_X1_leastLengthOf_58, r_X1_leastLengthOf_59, r_X1_leastLengthOf_60, r_X1_leastLengthOf_63, r_X1_leastLengthOf_65, r_X1_leastLengthOf_66, r_X1_leastLengthOf_67, r_X1_leastLengthOf_68, r_X1_leastLengthOf_71, r_X1_leastLengthOf_74, r_X1_leastLengthOf_76, r_X1_leastLengthOf_77, r_X1_leastLengthOf_80, r_X1_leastLengthOf_81, r_X1_leastLengthOf_82, r_X1_leastLengthOf_83, r_X1_leastLengthOf_86, r_X1_leastLengthOf_87, r_X1_leastLengthOf_89, r_X1_leastLengthOf_90, r_X1_leastLengthOf_91, r_X1_leastLengthOf_92, r_X1_leastLengthOf_95, r_X1_leastLengthOf_97, r_X1_leastLengthOf_99, r_X1_leastLengthOf_100, r_X1_leastLengthOf_101, r_X1_leastLengthOf_102, r_X1_leastLengthOf_103, r_X1_leastLengthOf_105, r_X1_leastLengthOf_108, r_X1_leastLengthOf_111, r_X1_leastLengthOf_113, fGet_0, fGet_1, fGet_2, fGet_3, fGet_4, fGet_5, fGet_6, fGet_7, fGet_8, fGet_9, fGet_10, fGet_11, fGet_12, fGet_13, fGet_14, fGet_15, fGet_16, fGet_17, fGet_18, fOk_0, fOk_1, fOk_2, fOk_3, fOk_4, fOk_5, fOk_6, fOk_7, fOk_8, fOk_9, fOk_10, fOk_11, fOk_12, fOk_13, fOk_14, fOk_15, fOk_16, fOk_17, fOk_18, fSet_0, fSet_1, fSet_2, fSet_3, fSet_4, fSet_5, fSet_6, fSet_7, fSet_8, fSet_9, fSet_10, fSet_11, fSet_12, fSet_13, fSet_14, fSet_15, fSet_16, fSet_17, fSet_18, bkIs_e, rIw_o, rL_o, rC_o, rD_o, rQ_o, bkIn_o, bkEl_o, bkUp_o, cats_n, cats_i, cats_r, cats_l, cats_d, kl_i, kl_r, kl_n, kl_l, kl_d, rI_w, ok_b0, ok_b1, ile_0_1, ile_1_0, true_or, or_true, bkK_v, bkK_0, wr_q, Nat.add_eq_left, Nat.left_eq_add, Nat.add_left_cancel_iff, Nat.reduceEqDiff, reduceIte, Nat.reduceEqDiff, nz_1, nz_2, nz_3, nz_4, nz_5, nz_6, nz_7, nz_8, nz_9, nz_10, nz_11, nz_12, true_and, and_true, Nat.reduceAdd, Nat.zero_add, Nat.add_zero, Nat.le_refl, Nat.reduceLeDiff, Nat.zero_le, not_true_eq_false, not_false_eq_true, false_implies, true_implies, implies_true, i0, rI_o i2, rI_o i3, rI_o i6, rI_o i7, w1, w2, w3, mI_xor, mI_succ, mI_nat (show low 10 t < 2147483648 by omega), mI_nat (show u < 2147483648 by omega), mI_nat (show (t &&& (t - 1)) ^^^ u < 2147483648 by omega), cp2, cp3, s1, s2, hC.2.1, mI_lt (show ro < 2147483648 by omega) (show w (P (low 10 t)) + sumB w (pls P u) 10 < 2147483648 by omega), mI_le (show 2 ^ pop 10 (t &&& (t - 1)) < 2147483648 by omega) (show i < 2147483648 by omega), show ¬ 2 ^ pop 10 (t &&& (t - 1)) ≤ i by omega, mI_add, mI_lt (show l (P (low 10 t)) + v2 < 2147483648 by omega) (show vb < 2147483648 by omega), bkK_x (M := gX1_leastLengthOf) rfl, show mC gX1_leastLengthOf = 0 from rfl, show mS gX1_leastLengthOf = 0 from rfl]
    have hx' : i + 1 < 2 ^ pop 10 (t &&& (t - 1)) → nI u - 1 &&& nI (t &&& (t - 1)) = nI (dep 10 (t &&& (t - 1)) (2 ^ pop 10 (t &&& (t - 1)) - 1 - (i + 1))) := by
      intro hlt
      have hd := dep_pred 10 (t &&& (t - 1)) r (by omega) (by omega)
      rw [hu] at hd
      rw [mI_pred hd.1, mI_and, hd.2, show 2 ^ pop 10 (t &&& (t - 1)) - 1 - (i + 1) = r - 1 by omega]
    refine ⟨fun q => ?_, fun q => ?_⟩
    · refine ih (i + 1) vb _ (by omega) hx' hv hA fun r' a b c u' L' => ?_
      by_cases e : r' = r
      · subst e; rw [hu] at c; omega
      · exact hB r' (by omega) b c u' L'
    · by_cases q2 : l (P (low 10 t)) + v2 < vb
      · rw [if_pos q2]
        refine ih (i + 1) (l (P (low 10 t)) + v2) _ (by omega) hx' (by omega) ⟨yOf P u (P (low 10 t)), v2, y_sub hC ht h0 e1, ?_, ?_, ?_⟩ fun r' a b c u' L' => ?_
        · unfold Fit; rw [y_sum hC ht h0 e1]; omega
        · rw [y_dif hC ht h0 e1]; exact L2
        · rw [y_max hC ht h0 e1]
        · by_cases e : r' = r
          · subst e; rw [hu] at L'; rw [lst_uniq L' L2]; exact Nat.le_refl _
          · have := hB r' (by omega) b c u' L'; omega
      · rw [if_neg q2]
        refine ih (i + 1) vb _ (by omega) hx' hv hA fun r' a b c u' L' => ?_
        by_cases e : r' = r
        · subst e; rw [hu] at L'; rw [lst_uniq L' L2]; omega
        · exact hB r' (by omega) b c u' L'
theorem c_leastLengthOf {G : bkG} {h : bkHS} {C : Nat} {S : CA} {P w l : Nat → Nat} {ro t : Nat} (hI : IsCut h C S) (hC : CutOK S P w l ro) (ht : t < 2 ^ S.ct) (hT : 0 < t → ∀ u, u &&& (t &&& (t - 1)) = u → TabAt S.bs S.ll P w l ro u) {Post : bkPo}
    (hP : ∀ v, Lst w l ro (pls P t) v → v ≤ 1000 * t → Post (.inl (some (.int (nI v)))) h none) : CM G gX1_leastLengthOf [.ref C, .int (nI t)] h none Post := by
  refine meth (lv := [some (.ref C), some (.int (nI t)), none, none, none, none, none, none]) ok_gX1_leastLengthOf (by decide) rfl (Nat.le_of_ble_eq_true rfl) rfl ?_
  by_cases h0 : t = 0
  · subst h0
    simp only [r_X1_leastLengthOf_0, r_X1_leastLengthOf_1, r_X1_leastLengthOf_4, r_X1_leastLengthOf_5, r_X1_leastLengthOf_7, r_X1_leastLengthOf_10, r_X1_leastLengthOf_11, r_X1_leastLengthOf_12, r_X1_leastLengthOf_13, r_X1_leastLengthOf_14, r_X1_leastLengthOf_15, r_X1_leastLengthOf_16, r_X1_leastLengthOf_17, r_X1_leastLengthOf_18, r_X1_leastLengthOf_21, r_X1_leastLengthOf_22, r_X1_leastLengthOf_23, r_X1_leastLengthOf_24, r_X1_leastLengthOf_27, r_X1_leastLengthOf_28, r_X1_leastLengthOf_29, r_X1_leastLengthOf_30, r_X1_leastLengthOf_32, r_X1_leastLengthOf_33, r_X1_leastLengthOf_35, r_X1_leastLengthOf_36, r_X1_leastLengthOf_37, r_X1_leastLengthOf_40, r_X1_leastLengthOf_41, r_X1_leastLengthOf_43, r_X1_leastLengthOf_44, r_X1_leastLengthOf_46, r_X1_leastLengthOf_48, r_X1_leastLengthOf_50, r_X1_leastLengthOf_53, r_X1_leastLengthOf_54, r_X1_leastLengthOf_57, r_X1_leastLengthOf_58, r_X1_leastLengthOf_59, r_X1_leastLengthOf_60, r_X1_leastLengthOf_63, r_X1_leastLengthOf_65, r_X1_leastLengthOf_66, r_X1_leastLengthOf_67, r_X1_leastLengthOf_68, r_X1_leastLengthOf_71, r_X1_leastLengthOf_74, r_X1_leastLengthOf_76, r_X1_leastLengthOf_77, r_X1_leastLengthOf_80, r_X1_leastLengthOf_81, r_X1_leastLengthOf_82, r_X1_leastLengthOf_83, r_X1_leastLengthOf_86, r_X1_leastLengthOf_87, r_X1_leastLengthOf_89, r_X1_leastLengthOf_90, r_X1_leastLengthOf_91, r_X1_leastLengthOf_92, r_X1_leastLengthOf_95, r_X1_leastLengthOf_97, r_X1_leastLengthOf_99, r_X1_leastLengthOf_100, r_X1_leastLengthOf_101, r_X1_leastLengthOf_102, r_X1_leastLengthOf_103, r_X1_leastLengthOf_105, r_X1_leastLengthOf_108, r_X1_leastLengthOf_111, r_X1_leastLengthOf_113, fGet_0, fGet_1, fGet_2, fGet_3, fGet_4, fGet_5, fGet_6, fGet_7, fGet_8, fGet_9, fGet_10, fGet_11, fGet_12, fGet_13, fGet_14, fGet_15, fGet_16, fGet_17, fGet_18, fOk_0, fOk_1, fOk_2, fOk_3, fOk_4, fOk_5, fOk_6, fOk_7, fOk_8, fOk_9, fOk_10, fOk_11, fOk_12, fOk_13, fOk_14, fOk_15, fOk_16, fOk_17, fOk_18, fSet_0, fSet_1, fSet_2, fSet_3, fSet_4, fSet_5, fSet_6, fSet_7, fSet_8, fSet_9, fSet_10, fSet_11, fSet_12, fSet_13, fSet_14, fSet_15, fSet_16, fSet_17, fSet_18, bkIs_e, rIw_o, rL_o, rC_o, rD_o, rQ_o, bkIn_o, bkEl_o, bkUp_o, cats_n, cats_i, cats_r, cats_l, cats_d, kl_i, kl_r, kl_n, kl_l, kl_d, rI_w, ok_b0, ok_b1, ile_0_1, ile_1_0, true_or, or_true, bkK_v, bkK_0, wr_q, Nat.add_eq_left, Nat.left_eq_add, Nat.add_left_cancel_iff, Nat.reduceEqDiff, reduceIte, Nat.reduceEqDiff, nz_1, nz_2, nz_3, nz_4, nz_5, nz_6, nz_7, nz_8, nz_9, nz_10, nz_11, nz_12, true_and, and_true, Nat.reduceAdd, Nat.zero_add, Nat.add_zero, Nat.le_refl, Nat.reduceLeDiff, Nat.zero_le, not_true_eq_false, not_false_eq_true, false_implies, true_implies, implies_true, show (nI 0 : Int32) = 0 from rfl, bkK_x (M := gX1_leastLengthOf) rfl, show mC gX1_leastLengthOf = 0 from rfl, show mS gX1_leastLengthOf = 0 from rfl]
    exact hP 0 (lst_empty (pls_0 P)) (Nat.zero_le _)
  have h0 : 0 < t := by omega
  have tl := t_lt hC ht h0
  have hq := q_lt hC ht h0
  have hF := fin_and t tl h0
  have hpp : pop 10 (t &&& (t - 1)) ≤ 10 := by
    have : ∀ o : Nat, o < 1024 → pop 10 o ≤ 10 := by decide +kernel
    exact this _ (by omega)
  have hp2 : 2 ^ pop 10 (t &&& (t - 1)) ≤ 1024 := Nat.pow_le_pow_right (n := 2) (by omega) hpp
  have hp3 : 0 < 2 ^ pop 10 (t &&& (t - 1)) := Nat.pow_pos (by omega)
  obtain ⟨cp1, cp2, cp3, cp4, cp5⟩ := hC.2.2.2.1 _ hq
  have hro := hC.2.2.1
  have e0 : (t &&& (t - 1)) &&& (t &&& (t - 1)) = t &&& (t - 1) := Nat.and_self _
  obtain ⟨v0, _, s2, L0, b0⟩ := hT h0 _ e0
  obtain ⟨i0, i1, i2, i3, i4, i5, i6, i7⟩ := id hI
  have w1 : vp_in (nI (low 10 t)) 10 := vp_nI hF.1 (by omega)
  have w2 : vp_in (nI (t &&& (t - 1))) 1024 := vp_nI (by omega) (by omega)
  have hz : ¬ nI t = 0 := fun e => by have := (mI_inj (a := t) (b := 0) (by omega) (by omega)).mp e; omega
  simp only [r_X1_leastLengthOf_0, r_X1_leastLengthOf_1, r_X1_leastLengthOf_4, r_X1_leastLengthOf_5, r_X1_leastLengthOf_6, r_X1_leastLengthOf_7, r_X1_leastLengthOf_10, r_X1_leastLengthOf_11, r_X1_leastLengthOf_12, r_X1_leastLengthOf_13, r_X1_leastLengthOf_14, r_X1_leastLengthOf_15, r_X1_leastLengthOf_16, r_X1_leastLengthOf_17, r_X1_leastLengthOf_18, r_X1_leastLengthOf_21, r_X1_leastLengthOf_22, r_X1_leastLengthOf_23, r_X1_leastLengthOf_24, r_X1_leastLengthOf_27, r_X1_leastLengthOf_28, r_X1_leastLengthOf_29, r_X1_leastLengthOf_30, r_X1_leastLengthOf_32, r_X1_leastLengthOf_33, r_X1_leastLengthOf_35, r_X1_leastLengthOf_36, r_X1_leastLengthOf_37, r_X1_leastLengthOf_40, r_X1_leastLengthOf_41, r_X1_leastLengthOf_43, r_X1_leastLengthOf_44, r_X1_leastLengthOf_48, r_X1_leastLengthOf_50, r_X1_leastLengthOf_53, r_X1_leastLengthOf_54, r_X1_leastLengthOf_57, r_X1_leastLengthOf_58, r_X1_leastLengthOf_59, r_X1_leastLengthOf_60, r_X1_leastLengthOf_63, r_X1_leastLengthOf_65, r_X1_leastLengthOf_66, r_X1_leastLengthOf_67, r_X1_leastLengthOf_68, r_X1_leastLengthOf_71, r_X1_leastLengthOf_74, r_X1_leastLengthOf_76, r_X1_leastLengthOf_77, r_X1_leastLengthOf_80, r_X1_leastLengthOf_81, r_X1_leastLengthOf_82, r_X1_leastLengthOf_83, r_X1_leastLengthOf_86, r_X1_leastLengthOf_87, r_X1_leastLengthOf_89, r_X1_leastLengthOf_90, r_X1_leastLengthOf_91, r_X1_leastLengthOf_92, r_X1_leastLengthOf_95, r_X1_leastLengthOf_97, r_X1_leastLengthOf_99, r_X1_leastLengthOf_100, r_X1_leastLengthOf_101, r_X1_leastLengthOf_102, r_X1_leastLengthOf_103, r_X1_leastLengthOf_105, r_X1_leastLengthOf_108, r_X1_leastLengthOf_111, r_X1_leastLengthOf_113, fGet_0, fGet_1, fGet_2, fGet_3, fGet_4, fGet_5, fGet_6, fGet_7, fGet_8, fGet_9, fGet_10, fGet_11, fGet_12, fGet_13, fGet_14, fGet_15, fGet_16, fGet_17, fGet_18, fOk_0, fOk_1, fOk_2, fOk_3, fOk_4, fOk_5, fOk_6, fOk_7, fOk_8, fOk_9, fOk_10, fOk_11, fOk_12, fOk_13, fOk_14, fOk_15, fOk_16, fOk_17, fOk_18, fSet_0, fSet_1, fSet_2, fSet_3, fSet_4, fSet_5, fSet_6, fSet_7, fSet_8, fSet_9, fSet_10, fSet_11, fSet_12, fSet_13, fSet_14, fSet_15, fSet_16, fSet_17, fSet_18, bkIs_e, rIw_o, rL_o, rC_o, rD_o, rQ_o, bkIn_o, bkEl_o, bkUp_o, cats_n, cats_i, cats_r, cats_l, cats_d, kl_i, kl_r, kl_n, kl_l, kl_d, rI_w, ok_b0, ok_b1, ile_0_1, ile_1_0, true_or, or_true, bkK_v, bkK_0, wr_q, Nat.add_eq_left, Nat.left_eq_add, Nat.add_left_cancel_iff, Nat.reduceEqDiff, reduceIte, Nat.reduceEqDiff, nz_1, nz_2, nz_3, nz_4, nz_5, nz_6, nz_7, nz_8, nz_9, nz_10, nz_11, nz_12, true_and, and_true, Nat.reduceAdd, Nat.zero_add, Nat.add_zero, Nat.le_refl, Nat.reduceLeDiff, Nat.zero_le, not_true_eq_false, not_false_eq_true, false_implies, true_implies, implies_true, hz, bkK_x (M := gX1_leastLengthOf) rfl, show mC gX1_leastLengthOf = 0 from rfl, show mS gX1_leastLengthOf = 0 from rfl]
  refine c_longestOf tl h0 ?_
  simp only [r_X1_leastLengthOf_0, r_X1_leastLengthOf_1, r_X1_leastLengthOf_4, r_X1_leastLengthOf_5, r_X1_leastLengthOf_6, r_X1_leastLengthOf_7, r_X1_leastLengthOf_10, r_X1_leastLengthOf_11, r_X1_leastLengthOf_12, r_X1_leastLengthOf_13, r_X1_leastLengthOf_14, r_X1_leastLengthOf_15, r_X1_leastLengthOf_16, r_X1_leastLengthOf_17, r_X1_leastLengthOf_18, r_X1_leastLengthOf_21, r_X1_leastLengthOf_22, r_X1_leastLengthOf_23, r_X1_leastLengthOf_24, r_X1_leastLengthOf_27, r_X1_leastLengthOf_28, r_X1_leastLengthOf_29, r_X1_leastLengthOf_30, r_X1_leastLengthOf_32, r_X1_leastLengthOf_33, r_X1_leastLengthOf_35, r_X1_leastLengthOf_36, r_X1_leastLengthOf_37, r_X1_leastLengthOf_40, r_X1_leastLengthOf_41, r_X1_leastLengthOf_43, r_X1_leastLengthOf_44, r_X1_leastLengthOf_48, r_X1_leastLengthOf_50, r_X1_leastLengthOf_53, r_X1_leastLengthOf_54, r_X1_leastLengthOf_57, r_X1_leastLengthOf_58, r_X1_leastLengthOf_59, r_X1_leastLengthOf_60, r_X1_leastLengthOf_63, r_X1_leastLengthOf_65, r_X1_leastLengthOf_66, r_X1_leastLengthOf_67, r_X1_leastLengthOf_68, r_X1_leastLengthOf_71, r_X1_leastLengthOf_74, r_X1_leastLengthOf_76, r_X1_leastLengthOf_77, r_X1_leastLengthOf_80, r_X1_leastLengthOf_81, r_X1_leastLengthOf_82, r_X1_leastLengthOf_83, r_X1_leastLengthOf_86, r_X1_leastLengthOf_87, r_X1_leastLengthOf_89, r_X1_leastLengthOf_90, r_X1_leastLengthOf_91, r_X1_leastLengthOf_92, r_X1_leastLengthOf_95, r_X1_leastLengthOf_97, r_X1_leastLengthOf_99, r_X1_leastLengthOf_100, r_X1_leastLengthOf_101, r_X1_leastLengthOf_102, r_X1_leastLengthOf_103, r_X1_leastLengthOf_105, r_X1_leastLengthOf_108, r_X1_leastLengthOf_111, r_X1_leastLengthOf_113, fGet_0, fGet_1, fGet_2, fGet_3, fGet_4, fGet_5, fGet_6, fGet_7, fGet_8, fGet_9, fGet_10, fGet_11, fGet_12, fGet_13, fGet_14, fGet_15, fGet_16, fGet_17, fGet_18, fOk_0, fOk_1, fOk_2, fOk_3, fOk_4, fOk_5, fOk_6, fOk_7, fOk_8, fOk_9, fOk_10, fOk_11, fOk_12, fOk_13, fOk_14, fOk_15, fOk_16, fOk_17, fOk_18, fSet_0, fSet_1, fSet_2, fSet_3, fSet_4, fSet_5, fSet_6, fSet_7, fSet_8, fSet_9, fSet_10, fSet_11, fSet_12, fSet_13, fSet_14, fSet_15, fSet_16, fSet_17, fSet_18, bkIs_e, rIw_o, rL_o, rC_o, rD_o, rQ_o, bkIn_o, bkEl_o, bkUp_o, cats_n, cats_i, cats_r, cats_l, cats_d, kl_i, kl_r, kl_n, kl_l, kl_d, rI_w, ok_b0, ok_b1, ile_0_1, ile_1_0, true_or, or_true, bkK_v, bkK_0, wr_q, Nat.add_eq_left, Nat.left_eq_add, Nat.add_left_cancel_iff, Nat.reduceEqDiff, reduceIte, Nat.reduceEqDiff, nz_1, nz_2, nz_3, nz_4, nz_5, nz_6, nz_7, nz_8, nz_9, nz_10, nz_11, nz_12, true_and, and_true, Nat.reduceAdd, Nat.zero_add, Nat.add_zero, Nat.le_refl, Nat.reduceLeDiff, Nat.zero_le, not_true_eq_false, not_false_eq_true, false_implies, true_implies, implies_true, i0, rI_o i2, rI_o i7, w1, w2, mI_pred h0, mI_and, mI_nat (show low 10 t < 2147483648 by omega), mI_nat (show t &&& (t - 1) < 2147483648 by omega), cp2, s2, mI_add, bkK_x (M := gX1_leastLengthOf) rfl, show mC gX1_leastLengthOf = 0 from rfl, show mS gX1_leastLengthOf = 0 from rfl]
  refine c_bitCount ?_
  rw [fin_bc _ (by omega)]
  simp only [r_X1_leastLengthOf_0, r_X1_leastLengthOf_1, r_X1_leastLengthOf_4, r_X1_leastLengthOf_5, r_X1_leastLengthOf_6, r_X1_leastLengthOf_7, r_X1_leastLengthOf_10, r_X1_leastLengthOf_11, r_X1_leastLengthOf_12, r_X1_leastLengthOf_13, r_X1_leastLengthOf_14, r_X1_leastLengthOf_15, r_X1_leastLengthOf_16, r_X1_leastLengthOf_17, r_X1_leastLengthOf_18, r_X1_leastLengthOf_21, r_X1_leastLengthOf_22, r_X1_leastLengthOf_23, r_X1_leastLengthOf_24, r_X1_leastLengthOf_27, r_X1_leastLengthOf_28, r_X1_leastLengthOf_29, r_X1_leastLengthOf_30, r_X1_leastLengthOf_32, r_X1_leastLengthOf_33, r_X1_leastLengthOf_35, r_X1_leastLengthOf_36, r_X1_leastLengthOf_37, r_X1_leastLengthOf_40, r_X1_leastLengthOf_41, r_X1_leastLengthOf_43, r_X1_leastLengthOf_44, r_X1_leastLengthOf_48, r_X1_leastLengthOf_50, r_X1_leastLengthOf_53, r_X1_leastLengthOf_54, r_X1_leastLengthOf_57, r_X1_leastLengthOf_58, r_X1_leastLengthOf_59, r_X1_leastLengthOf_60, r_X1_leastLengthOf_63, r_X1_leastLengthOf_65, r_X1_leastLengthOf_66, r_X1_leastLengthOf_67, r_X1_leastLengthOf_68, r_X1_leastLengthOf_71, r_X1_leastLengthOf_74, r_X1_leastLengthOf_76, r_X1_leastLengthOf_77, r_X1_leastLengthOf_80, r_X1_leastLengthOf_81, r_X1_leastLengthOf_82, r_X1_leastLengthOf_83, r_X1_leastLengthOf_86, r_X1_leastLengthOf_87, r_X1_leastLengthOf_89, r_X1_leastLengthOf_90, r_X1_leastLengthOf_91, r_X1_leastLengthOf_92, r_X1_leastLengthOf_95, r_X1_leastLengthOf_97, r_X1_leastLengthOf_99, r_X1_leastLengthOf_100, r_X1_leastLengthOf_101, r_X1_leastLengthOf_102, r_X1_leastLengthOf_103, r_X1_leastLengthOf_105, r_X1_leastLengthOf_108, r_X1_leastLengthOf_111, r_X1_leastLengthOf_113, fGet_0, fGet_1, fGet_2, fGet_3, fGet_4, fGet_5, fGet_6, fGet_7, fGet_8, fGet_9, fGet_10, fGet_11, fGet_12, fGet_13, fGet_14, fGet_15, fGet_16, fGet_17, fGet_18, fOk_0, fOk_1, fOk_2, fOk_3, fOk_4, fOk_5, fOk_6, fOk_7, fOk_8, fOk_9, fOk_10, fOk_11, fOk_12, fOk_13, fOk_14, fOk_15, fOk_16, fOk_17, fOk_18, fSet_0, fSet_1, fSet_2, fSet_3, fSet_4, fSet_5, fSet_6, fSet_7, fSet_8, fSet_9, fSet_10, fSet_11, fSet_12, fSet_13, fSet_14, fSet_15, fSet_16, fSet_17, fSet_18, bkIs_e, rIw_o, rL_o, rC_o, rD_o, rQ_o, bkIn_o, bkEl_o, bkUp_o, cats_n, cats_i, cats_r, cats_l, cats_d, kl_i, kl_r, kl_n, kl_l, kl_d, rI_w, ok_b0, ok_b1, ile_0_1, ile_1_0, true_or, or_true, bkK_v, bkK_0, wr_q, Nat.add_eq_left, Nat.left_eq_add, Nat.add_left_cancel_iff, Nat.reduceEqDiff, reduceIte, Nat.reduceEqDiff, nz_1, nz_2, nz_3, nz_4, nz_5, nz_6, nz_7, nz_8, nz_9, nz_10, nz_11, nz_12, true_and, and_true, Nat.reduceAdd, Nat.zero_add, Nat.add_zero, Nat.le_refl, Nat.reduceLeDiff, Nat.zero_le, not_true_eq_false, not_false_eq_true, false_implies, true_implies, implies_true, fin_pow _ (show pop 10 (t &&& (t - 1)) < 11 by omega), bkK_x (M := gX1_leastLengthOf) rfl, show mC gX1_leastLengthOf = 0 from rfl, show mS gX1_leastLengthOf = 0 from rfl]
  have y0 : (0 : Nat) &&& (t &&& (t - 1)) = 0 := Nat.zero_and _
  have x0 : (t &&& (t - 1)) ^^^ 0 = t &&& (t - 1) := Nat.xor_zero _
  have hd := y_dif hC ht h0 y0
  have hs := y_sum hC ht h0 y0
  have hm := y_max hC ht h0 y0
  rw [x0] at hd
  have z0 : sumB w (pls P 0) 10 = 0 := by have := sumB_le (w := w) (X := pls P 0) (B := 0) 10 fun b _ hb => by rw [pls_0] at hb; exact absurd hb (by decide)
                                          omega
  refine u_least1 hI hC ht h0 (hT h0) hP (2 ^ pop 10 (t &&& (t - 1))) 0 (l (P (low 10 t)) + v0) _ (by omega) (fun _ => ?_) (by omega) ⟨yOf P 0 (P (low 10 t)), v0, y_sub hC ht h0 y0, ?_, ?_, ?_⟩ fun r a b => by omega
  · rw [Nat.sub_zero, dep_all 10 _ (by omega)]
  · unfold Fit; rw [hs, z0]; omega
  · rw [hd]; exact L0
  · rw [hm]
