/-! 29: the cloth cutter: the sorted places -/
abbrev CA : Type := (Nat → Int32) × (Nat → Int32) × (Nat → Int32) × (Nat → Int32) × (Nat → Int32) × (Nat → Int32) × (Nat → Int32) × Int32 × Nat × Nat × Int32
abbrev CA.bo (S : CA) : Nat → Int32 := S.1
abbrev CA.le (S : CA) : Nat → Int32 := S.2.1
abbrev CA.br (S : CA) : Nat → Int32 := S.2.2.1
abbrev CA.so (S : CA) : Nat → Int32 := S.2.2.2.1
abbrev CA.bl (S : CA) : Nat → Int32 := S.2.2.2.2.1
abbrev CA.bs (S : CA) : Nat → Int32 := S.2.2.2.2.2.1
abbrev CA.ll (S : CA) : Nat → Int32 := S.2.2.2.2.2.2.1
abbrev CA.ro (S : CA) : Int32 := S.2.2.2.2.2.2.2.1
abbrev CA.ct (S : CA) : Nat := S.2.2.2.2.2.2.2.2.1
abbrev CA.fs (S : CA) : Nat := S.2.2.2.2.2.2.2.2.2.1
abbrev CA.fl (S : CA) : Int32 := S.2.2.2.2.2.2.2.2.2.2
def IsCut (h : bkHS) (C : Nat) (S : CA) : Prop :=
  h C = some (eO 1 [.ref (C + 1), .ref (C + 2), .ref (C + 3), .ref (C + 4), .ref (C + 5), .ref (C + 6), .ref (C + 7), .int S.ro, .int (nI S.ct), .int (nI S.fs), .int S.fl]) ∧
  h (C + 1) = some (eI 10 S.bo) ∧ h (C + 2) = some (eI 10 S.le) ∧ h (C + 3) = some (eI 10 S.br) ∧ h (C + 4) = some (eI 10 S.so) ∧ h (C + 5) = some (eI 10 S.bl) ∧ h (C + 6) = some (eI 1024 S.bs) ∧ h (C + 7) = some (eI 1024 S.ll)
theorem IsCut.same {h h' : bkHS} {C : Nat} {S : CA} (hI : IsCut h C S) (hs : ∀ q, C ≤ q → q < C + 8 → h' q = h q) : IsCut h' C S :=
  ⟨(hs _ (by omega) (by omega)).trans hI.1, (hs _ (by omega) (by omega)).trans hI.2.1, (hs _ (by omega) (by omega)).trans hI.2.2.1, (hs _ (by omega) (by omega)).trans hI.2.2.2.1, (hs _ (by omega) (by omega)).trans hI.2.2.2.2.1, (hs _ (by omega) (by omega)).trans hI.2.2.2.2.2.1, (hs _ (by omega) (by omega)).trans hI.2.2.2.2.2.2.1, (hs _ (by omega) (by omega)).trans hI.2.2.2.2.2.2.2⟩
theorem IsCut.far {h h' : bkHS} {C a n : Nat} {S : CA} (hI : IsCut h C S) (hs : Same h h' a n) (hd : C + 8 ≤ a ∨ a + n ≤ C) : IsCut h' C S := hI.same fun q h1 h2 => hs q (by omega)
theorem c_cutNew {G : bkG} {h : bkHS} {a : Nat} {v0 v1 v2 v3 v4 v5 v6 v7 v8 v9 v10 : Value} (h0 : h a = some (eO 1 [v0, v1, v2, v3, v4, v5, v6, v7, v8, v9, v10])) {Post : bkPo}
    (hP : ∀ h', IsCut h' a (fun _ => 0, fun _ => 0, fun _ => 0, fun _ => 0, fun _ => 0, fun _ => 0, fun _ => 0, 0, 0, 0, 0) → Same h h' a 8 → Post (.inl none) h' (some (a + 8))) : CM G gX1_init [.ref a] h (some (a + 1)) Post := by
  refine meth (lv := [some (.ref a)]) ok_gX1_init (by decide) rfl (Nat.le_of_ble_eq_true rfl) rfl ?_
  simp only [r_X1_init_0, r_X1_init_1, r_X1_init_4, r_X1_init_5, r_X1_init_7, r_X1_init_9, r_X1_init_12, r_X1_init_13, r_X1_init_15, r_X1_init_17, r_X1_init_20, r_X1_init_21, r_X1_init_23, r_X1_init_25, r_X1_init_28, r_X1_init_29, r_X1_init_31, r_X1_init_33, r_X1_init_36, r_X1_init_37, r_X1_init_39, r_X1_init_41, r_X1_init_44, r_X1_init_45, r_X1_init_48, r_X1_init_50, r_X1_init_53, r_X1_init_54, r_X1_init_57, r_X1_init_59, r_X1_init_62, r_X1_init_63, r_X1_init_64, r_X1_init_67, r_X1_init_68, r_X1_init_69, r_X1_init_72, r_X1_init_73, r_X1_init_74, r_X1_init_77, r_X1_init_78, r_X1_init_79, r_X1_init_82, fGet_0, fGet_1, fGet_2, fGet_3, fGet_4, fGet_5, fGet_6, fGet_7, fGet_8, fGet_9, fGet_10, fGet_11, fGet_12, fGet_13, fGet_14, fGet_15, fGet_16, fGet_17, fGet_18, fOk_0, fOk_1, fOk_2, fOk_3, fOk_4, fOk_5, fOk_6, fOk_7, fOk_8, fOk_9, fOk_10, fOk_11, fOk_12, fOk_13, fOk_14, fOk_15, fOk_16, fOk_17, fOk_18, fSet_0, fSet_1, fSet_2, fSet_3, fSet_4, fSet_5, fSet_6, fSet_7, fSet_8, fSet_9, fSet_10, fSet_11, fSet_12, fSet_13, fSet_14, fSet_15, fSet_16, fSet_17, fSet_18, bkIs_e, rIw_o, rL_o, rC_o, rD_o, rQ_o, bkIn_o, bkEl_o, bkUp_o, cats_n, cats_i, cats_r, cats_l, cats_d, kl_i, kl_r, kl_n, kl_l, kl_d, rI_w, ok_b0, ok_b1, ile_0_1, ile_1_0, true_or, or_true, bkK_v, bkK_0, wr_q, Nat.add_eq_left, Nat.left_eq_add, Nat.add_left_cancel_iff, Nat.reduceEqDiff, reduceIte, Nat.reduceEqDiff, nz_1, nz_2, nz_3, nz_4, nz_5, nz_6, nz_7, nz_8, nz_9, nz_10, nz_11, nz_12, true_and, and_true, Nat.reduceAdd, Nat.zero_add, Nat.add_zero, Nat.le_refl, Nat.reduceLeDiff, Nat.zero_le, not_true_eq_false, not_false_eq_true, false_implies, true_implies, implies_true, h0, Nat.add_assoc, bkK_x (M := gX1_init) rfl, show mC gX1_init = 7 from rfl, show mS gX1_init = 2098 from rfl]
  refine hP _ ⟨?_, ?_, ?_, ?_, ?_, ?_, ?_, ?_⟩ ?_
  · rw [wr_s]; rfl
  · simp [wr_q]
  · simp [wr_q]
  · simp [wr_q]
  · simp [wr_q]
  · simp [wr_q]
  · simp [wr_q]
  · simp [wr_q]
  · intro q hq
    repeat rw [wr_n _ _ (by omega)]
/-- x put in at place p -/
def insM (f : Nat → Int32) (p : Nat) (x : Int32) : Nat → Int32 := fun j => if j < p then f j else if j = p then x else f (j - 1)
theorem mI_m1 {k : Nat} : nI (k + 1) + -1 = nI k := by
  rw [← mI_succ]; grind
theorem c_layCloth {G : bkG} {h : bkHS} {C : Nat} {S : CA} {b l w : Int32} (hI : IsCut h C S) (hc : S.ct < 10) {Post : bkPo}
    (hP : ∀ h' p f g u, p ≤ S.ct → (∀ j, p ≤ j → j < S.ct → S.le j < l) → (0 < p → ¬ S.le (p - 1) < l) → (∀ j, j ≤ S.ct → f j = insM S.bo p b j) → (∀ j, j ≤ S.ct → g j = insM S.le p l j) → (∀ j, j ≤ S.ct → u j = insM S.br p w j) →
      IsCut h' C (f, g, u, S.so, S.bl, S.bs, S.ll, S.ro, S.ct + 1, S.fs, S.fl) → Same h h' C 8 → Post (.inl none) h' none) : CM G gX1_layCloth [.ref C, .int b, .int l, .int w] h none Post := by
  obtain ⟨bo, le, br, so, bl, bs, ll, ro, ct, fs, fl⟩ := S
  dsimp only [CA.bo, CA.le, CA.br, CA.so, CA.bl, CA.bs, CA.ll, CA.ro, CA.ct, CA.fs, CA.fl] at hc hP
  refine meth (lv := [some (.ref C), some (.int b), some (.int l), some (.int w), none]) ok_gX1_layCloth (by decide) rfl (Nat.le_of_ble_eq_true rfl) rfl ?_
  simp only [r_X1_layCloth_0, r_X1_layCloth_1, r_X1_layCloth_4, r_X1_layCloth_6, r_X1_layCloth_9, r_X1_layCloth_10, r_X1_layCloth_11, r_X1_layCloth_14, r_X1_layCloth_18, r_X1_layCloth_21, r_X1_layCloth_22, r_X1_layCloth_25, r_X1_layCloth_27, r_X1_layCloth_28, r_X1_layCloth_29, r_X1_layCloth_30, r_X1_layCloth_31, r_X1_layCloth_34, r_X1_layCloth_35, r_X1_layCloth_38, r_X1_layCloth_40, r_X1_layCloth_41, r_X1_layCloth_44, r_X1_layCloth_46, r_X1_layCloth_47, r_X1_layCloth_48, r_X1_layCloth_49, r_X1_layCloth_50, r_X1_layCloth_51, r_X1_layCloth_54, r_X1_layCloth_56, r_X1_layCloth_57, r_X1_layCloth_60, r_X1_layCloth_62, r_X1_layCloth_63, r_X1_layCloth_64, r_X1_layCloth_65, r_X1_layCloth_66, r_X1_layCloth_67, r_X1_layCloth_70, r_X1_layCloth_72, r_X1_layCloth_73, r_X1_layCloth_76, r_X1_layCloth_78, r_X1_layCloth_79, r_X1_layCloth_80, r_X1_layCloth_81, r_X1_layCloth_82, r_X1_layCloth_85, r_X1_layCloth_88, r_X1_layCloth_89, r_X1_layCloth_92, r_X1_layCloth_94, r_X1_layCloth_95, r_X1_layCloth_96, r_X1_layCloth_97, r_X1_layCloth_100, r_X1_layCloth_102, r_X1_layCloth_103, r_X1_layCloth_104, r_X1_layCloth_105, r_X1_layCloth_108, r_X1_layCloth_110, r_X1_layCloth_111, r_X1_layCloth_112, r_X1_layCloth_113, r_X1_layCloth_114, r_X1_layCloth_117, r_X1_layCloth_118, r_X1_layCloth_119, r_X1_layCloth_122, fGet_0, fGet_1, fGet_2, fGet_3, fGet_4, fGet_5, fGet_6, fGet_7, fGet_8, fGet_9, fGet_10, fGet_11, fGet_12, fGet_13, fGet_14, fGet_15, fGet_16, fGet_17, fGet_18, fOk_0, fOk_1, fOk_2, fOk_3, fOk_4, fOk_5, fOk_6, fOk_7, fOk_8, fOk_9, fOk_10, fOk_11, fOk_12, fOk_13, fOk_14, fOk_15, fOk_16, fOk_17, fOk_18, fSet_0, fSet_1, fSet_2, fSet_3, fSet_4, fSet_5, fSet_6, fSet_7, fSet_8, fSet_9, fSet_10, fSet_11, fSet_12, fSet_13, fSet_14, fSet_15, fSet_16, fSet_17, fSet_18, bkIs_e, rIw_o, rL_o, rC_o, rD_o, rQ_o, bkIn_o, bkEl_o, bkUp_o, cats_n, cats_i, cats_r, cats_l, cats_d, kl_i, kl_r, kl_n, kl_l, kl_d, rI_w, ok_b0, ok_b1, ile_0_1, ile_1_0, true_or, or_true, bkK_v, bkK_0, wr_q, Nat.add_eq_left, Nat.left_eq_add, Nat.add_left_cancel_iff, Nat.reduceEqDiff, reduceIte, Nat.reduceEqDiff, nz_1, nz_2, nz_3, nz_4, nz_5, nz_6, nz_7, nz_8, nz_9, nz_10, nz_11, nz_12, true_and, and_true, Nat.reduceAdd, Nat.zero_add, Nat.add_zero, Nat.le_refl, Nat.reduceLeDiff, Nat.zero_le, not_true_eq_false, not_false_eq_true, false_implies, true_implies, implies_true, hI.1, show nI ct < 10 from (mI_lt (b := 10) (by omega) (by omega)).mpr hc, bkK_x (M := gX1_layCloth) rfl, show mC gX1_layCloth = 0 from rfl, show mS gX1_layCloth = 0 from rfl]
  have fin : ∀ p h' f g u, p ≤ ct → (∀ j, p ≤ j → j < ct → le j < l) → (∀ j, j ≤ ct → (j < p → f j = bo j ∧ g j = le j ∧ u j = br j) ∧ (p < j → f j = bo (j - 1) ∧ g j = le (j - 1) ∧ u j = br (j - 1))) → IsCut h' C (f, g, u, so, bl, bs, ll, ro, ct, fs, fl) → Same h h' C 8 → (0 < p → ¬ le (p - 1) < l) →
      wp G gX1_layCloth Post 88 [some (.ref C), some (.int b), some (.int l), some (.int w), some (.int (nI p))] [] h' none 0 0 := by
    intro p h' f g u hp hl hf I s hq
    obtain ⟨i0, i1, i2, i3, i4, i5, i6, i7⟩ := I
    dsimp only [CA.bo, CA.le, CA.br, CA.so, CA.bl, CA.bs, CA.ll, CA.ro, CA.ct, CA.fs, CA.fl] at i0 i1 i2 i3 i4 i5 i6 i7
    have hv : vp_in (nI p) 10 := vp_nI (by omega) (by omega)
    simp only [r_X1_layCloth_0, r_X1_layCloth_1, r_X1_layCloth_4, r_X1_layCloth_6, r_X1_layCloth_9, r_X1_layCloth_10, r_X1_layCloth_11, r_X1_layCloth_14, r_X1_layCloth_16, r_X1_layCloth_18, r_X1_layCloth_21, r_X1_layCloth_22, r_X1_layCloth_25, r_X1_layCloth_27, r_X1_layCloth_28, r_X1_layCloth_29, r_X1_layCloth_30, r_X1_layCloth_31, r_X1_layCloth_34, r_X1_layCloth_35, r_X1_layCloth_38, r_X1_layCloth_40, r_X1_layCloth_41, r_X1_layCloth_44, r_X1_layCloth_46, r_X1_layCloth_47, r_X1_layCloth_48, r_X1_layCloth_49, r_X1_layCloth_50, r_X1_layCloth_51, r_X1_layCloth_54, r_X1_layCloth_56, r_X1_layCloth_57, r_X1_layCloth_60, r_X1_layCloth_62, r_X1_layCloth_63, r_X1_layCloth_64, r_X1_layCloth_65, r_X1_layCloth_66, r_X1_layCloth_67, r_X1_layCloth_70, r_X1_layCloth_72, r_X1_layCloth_73, r_X1_layCloth_76, r_X1_layCloth_78, r_X1_layCloth_79, r_X1_layCloth_80, r_X1_layCloth_81, r_X1_layCloth_82, r_X1_layCloth_85, r_X1_layCloth_88, r_X1_layCloth_89, r_X1_layCloth_92, r_X1_layCloth_94, r_X1_layCloth_95, r_X1_layCloth_96, r_X1_layCloth_97, r_X1_layCloth_100, r_X1_layCloth_102, r_X1_layCloth_103, r_X1_layCloth_104, r_X1_layCloth_105, r_X1_layCloth_108, r_X1_layCloth_110, r_X1_layCloth_111, r_X1_layCloth_112, r_X1_layCloth_113, r_X1_layCloth_114, r_X1_layCloth_117, r_X1_layCloth_118, r_X1_layCloth_119, r_X1_layCloth_122, fGet_0, fGet_1, fGet_2, fGet_3, fGet_4, fGet_5, fGet_6, fGet_7, fGet_8, fGet_9, fGet_10, fGet_11, fGet_12, fGet_13, fGet_14, fGet_15, fGet_16, fGet_17, fGet_18, fOk_0, fOk_1, fOk_2, fOk_3, fOk_4, fOk_5, fOk_6, fOk_7, fOk_8, fOk_9, fOk_10, fOk_11, fOk_12, fOk_13, fOk_14, fOk_15, fOk_16, fOk_17, fOk_18, fSet_0, fSet_1, fSet_2, fSet_3, fSet_4, fSet_5, fSet_6, fSet_7, fSet_8, fSet_9, fSet_10, fSet_11, fSet_12, fSet_13, fSet_14, fSet_15, fSet_16, fSet_17, fSet_18, bkIs_e, rIw_o, rL_o, rC_o, rD_o, rQ_o, bkIn_o, bkEl_o, bkUp_o, cats_n, cats_i, cats_r, cats_l, cats_d, kl_i, kl_r, kl_n, kl_l, kl_d, rI_w, ok_b0, ok_b1, ile_0_1, ile_1_0, true_or, or_true, bkK_v, bkK_0, wr_q, Nat.add_eq_left, Nat.left_eq_add, Nat.add_left_cancel_iff, Nat.reduceEqDiff, reduceIte, Nat.reduceEqDiff, nz_1, nz_2, nz_3, nz_4, nz_5, nz_6, nz_7, nz_8, nz_9, nz_10, nz_11, nz_12, true_and, and_true, Nat.reduceAdd, Nat.zero_add, Nat.add_zero, Nat.le_refl, Nat.reduceLeDiff, Nat.zero_le, not_true_eq_false, not_false_eq_true, false_implies, true_implies, implies_true, i0, i1, i2, i3, hv, mI_nat (show p < 2147483648 by omega), mI_succ, bkK_x (M := gX1_layCloth) rfl, show mC gX1_layCloth = 0 from rfl, show mS gX1_layCloth = 0 from rfl]
    refine hP _ p (va_up f p b) (va_up g p l) (va_up u p w) hp hl hq ?_ ?_ ?_ ⟨?_, ?_, ?_, ?_, ?_, ?_, ?_, ?_⟩ ((((s.wr (by omega)).wr (by omega)).wr (by omega)).wr (by omega))
    · intro j hj
      unfold va_up insM
      have := hf j hj
      by_cases q : j = p
      · rw [if_pos q, if_neg (by omega), if_pos q]
      · rw [if_neg q]
        by_cases q' : j < p
        · rw [if_pos q']; exact (this.1 q').1
        · rw [if_neg q', if_neg q]; exact (this.2 (by omega)).1
    · intro j hj
      unfold va_up insM
      have := hf j hj
      by_cases q : j = p
      · rw [if_pos q, if_neg (by omega), if_pos q]
      · rw [if_neg q]
        by_cases q' : j < p
        · rw [if_pos q']; exact (this.1 q').2.1
        · rw [if_neg q', if_neg q]; exact (this.2 (by omega)).2.1
    · intro j hj
      unfold va_up insM
      have := hf j hj
      by_cases q : j = p
      · rw [if_pos q, if_neg (by omega), if_pos q]
      · rw [if_neg q]
        by_cases q' : j < p
        · rw [if_pos q']; exact (this.1 q').2.2
        · rw [if_neg q', if_neg q]; exact (this.2 (by omega)).2.2
    · rw [wr_s]
    · simp [wr_q]
    · simp [wr_q]
    · simp [wr_q]
    · simp [wr_q]; exact i4
    · simp [wr_q]; exact i5
    · simp [wr_q]; exact i6
    · simp [wr_q]; exact i7
  have loop : ∀ p h' f g u, p ≤ ct → (∀ j, p ≤ j → j < ct → le j < l) → (∀ j, j ≤ ct → (j < p → f j = bo j ∧ g j = le j ∧ u j = br j) ∧ (p < j → f j = bo (j - 1) ∧ g j = le (j - 1) ∧ u j = br (j - 1))) → IsCut h' C (f, g, u, so, bl, bs, ll, ro, ct, fs, fl) → Same h h' C 8 →
      wp G gX1_layCloth Post 16 [some (.ref C), some (.int b), some (.int l), some (.int w), some (.int (nI p))] [] h' none 0 0 := by
    intro p
    induction p with
    | zero =>
      intro h' f g u hp hl hf I s
      rw [r_X1_layCloth_16]
      simp only [r_X1_layCloth_0, r_X1_layCloth_1, r_X1_layCloth_4, r_X1_layCloth_6, r_X1_layCloth_9, r_X1_layCloth_10, r_X1_layCloth_11, r_X1_layCloth_14, r_X1_layCloth_18, r_X1_layCloth_22, r_X1_layCloth_25, r_X1_layCloth_27, r_X1_layCloth_28, r_X1_layCloth_29, r_X1_layCloth_30, r_X1_layCloth_31, r_X1_layCloth_34, r_X1_layCloth_35, r_X1_layCloth_38, r_X1_layCloth_40, r_X1_layCloth_41, r_X1_layCloth_44, r_X1_layCloth_46, r_X1_layCloth_47, r_X1_layCloth_48, r_X1_layCloth_49, r_X1_layCloth_50, r_X1_layCloth_51, r_X1_layCloth_54, r_X1_layCloth_56, r_X1_layCloth_57, r_X1_layCloth_60, r_X1_layCloth_62, r_X1_layCloth_63, r_X1_layCloth_64, r_X1_layCloth_65, r_X1_layCloth_66, r_X1_layCloth_67, r_X1_layCloth_70, r_X1_layCloth_72, r_X1_layCloth_73, r_X1_layCloth_76, r_X1_layCloth_78, r_X1_layCloth_79, r_X1_layCloth_80, r_X1_layCloth_81, r_X1_layCloth_82, r_X1_layCloth_85, r_X1_layCloth_89, r_X1_layCloth_92, r_X1_layCloth_94, r_X1_layCloth_95, r_X1_layCloth_96, r_X1_layCloth_97, r_X1_layCloth_100, r_X1_layCloth_102, r_X1_layCloth_103, r_X1_layCloth_104, r_X1_layCloth_105, r_X1_layCloth_108, r_X1_layCloth_110, r_X1_layCloth_111, r_X1_layCloth_112, r_X1_layCloth_113, r_X1_layCloth_114, r_X1_layCloth_117, r_X1_layCloth_118, r_X1_layCloth_119, r_X1_layCloth_122, fGet_0, fGet_1, fGet_2, fGet_3, fGet_4, fGet_5, fGet_6, fGet_7, fGet_8, fGet_9, fGet_10, fGet_11, fGet_12, fGet_13, fGet_14, fGet_15, fGet_16, fGet_17, fGet_18, fOk_0, fOk_1, fOk_2, fOk_3, fOk_4, fOk_5, fOk_6, fOk_7, fOk_8, fOk_9, fOk_10, fOk_11, fOk_12, fOk_13, fOk_14, fOk_15, fOk_16, fOk_17, fOk_18, fSet_0, fSet_1, fSet_2, fSet_3, fSet_4, fSet_5, fSet_6, fSet_7, fSet_8, fSet_9, fSet_10, fSet_11, fSet_12, fSet_13, fSet_14, fSet_15, fSet_16, fSet_17, fSet_18, bkIs_e, rIw_o, rL_o, rC_o, rD_o, rQ_o, bkIn_o, bkEl_o, bkUp_o, cats_n, cats_i, cats_r, cats_l, cats_d, kl_i, kl_r, kl_n, kl_l, kl_d, rI_w, ok_b0, ok_b1, ile_0_1, ile_1_0, true_or, or_true, bkK_v, bkK_0, wr_q, Nat.add_eq_left, Nat.left_eq_add, Nat.add_left_cancel_iff, Nat.reduceEqDiff, reduceIte, Nat.reduceEqDiff, nz_1, nz_2, nz_3, nz_4, nz_5, nz_6, nz_7, nz_8, nz_9, nz_10, nz_11, nz_12, true_and, and_true, Nat.reduceAdd, Nat.zero_add, Nat.add_zero, Nat.le_refl, Nat.reduceLeDiff, Nat.zero_le, not_true_eq_false, not_false_eq_true, false_implies, true_implies, implies_true, show ((nI 0 : Int32) ≤ 0) = True from eq_true (by decide), bkK_x (M := gX1_layCloth) rfl, show mC gX1_layCloth = 0 from rfl, show mS gX1_layCloth = 0 from rfl]
      exact fin _ h' f g u hp hl hf I s (fun e => absurd e (by omega))
    | succ p ih =>
      intro h' f g u hp hl hf I s
      obtain ⟨i0, i1, i2, i3, i4, i5, i6, i7⟩ := id I
      dsimp only [CA.bo, CA.le, CA.br, CA.so, CA.bl, CA.bs, CA.ll, CA.ro, CA.ct, CA.fs, CA.fl] at i0 i1 i2 i3 i4 i5 i6 i7
      have hv : vp_in (nI p) 10 := vp_nI (by omega) (by omega)
      have hv1 : vp_in (nI (p + 1)) 10 := vp_nI (by omega) (by omega)
      have hg := (hf p (by omega)).1 (by omega)
      rw [r_X1_layCloth_16]
      simp only [r_X1_layCloth_0, r_X1_layCloth_1, r_X1_layCloth_4, r_X1_layCloth_6, r_X1_layCloth_9, r_X1_layCloth_10, r_X1_layCloth_11, r_X1_layCloth_14, r_X1_layCloth_18, r_X1_layCloth_21, r_X1_layCloth_22, r_X1_layCloth_25, r_X1_layCloth_27, r_X1_layCloth_28, r_X1_layCloth_29, r_X1_layCloth_30, r_X1_layCloth_31, r_X1_layCloth_34, r_X1_layCloth_35, r_X1_layCloth_38, r_X1_layCloth_40, r_X1_layCloth_41, r_X1_layCloth_44, r_X1_layCloth_46, r_X1_layCloth_47, r_X1_layCloth_48, r_X1_layCloth_49, r_X1_layCloth_50, r_X1_layCloth_51, r_X1_layCloth_54, r_X1_layCloth_56, r_X1_layCloth_57, r_X1_layCloth_60, r_X1_layCloth_62, r_X1_layCloth_63, r_X1_layCloth_64, r_X1_layCloth_65, r_X1_layCloth_66, r_X1_layCloth_67, r_X1_layCloth_70, r_X1_layCloth_72, r_X1_layCloth_73, r_X1_layCloth_76, r_X1_layCloth_78, r_X1_layCloth_79, r_X1_layCloth_80, r_X1_layCloth_81, r_X1_layCloth_82, r_X1_layCloth_85, r_X1_layCloth_89, r_X1_layCloth_92, r_X1_layCloth_94, r_X1_layCloth_95, r_X1_layCloth_96, r_X1_layCloth_97, r_X1_layCloth_100, r_X1_layCloth_102, r_X1_layCloth_103, r_X1_layCloth_104, r_X1_layCloth_105, r_X1_layCloth_108, r_X1_layCloth_110, r_X1_layCloth_111, r_X1_layCloth_112, r_X1_layCloth_113, r_X1_layCloth_114, r_X1_layCloth_117, r_X1_layCloth_118, r_X1_layCloth_119, r_X1_layCloth_122, fGet_0, fGet_1, fGet_2, fGet_3, fGet_4, fGet_5, fGet_6, fGet_7, fGet_8, fGet_9, fGet_10, fGet_11, fGet_12, fGet_13, fGet_14, fGet_15, fGet_16, fGet_17, fGet_18, fOk_0, fOk_1, fOk_2, fOk_3, fOk_4, fOk_5, fOk_6, fOk_7, fOk_8, fOk_9, fOk_10, fOk_11, fOk_12, fOk_13, fOk_14, fOk_15, fOk_16, fOk_17, fOk_18, fSet_0, fSet_1, fSet_2, fSet_3, fSet_4, fSet_5, fSet_6, fSet_7, fSet_8, fSet_9, fSet_10, fSet_11, fSet_12, fSet_13, fSet_14, fSet_15, fSet_16, fSet_17, fSet_18, bkIs_e, rIw_o, rL_o, rC_o, rD_o, rQ_o, bkIn_o, bkEl_o, bkUp_o, cats_n, cats_i, cats_r, cats_l, cats_d, kl_i, kl_r, kl_n, kl_l, kl_d, rI_w, ok_b0, ok_b1, ile_0_1, ile_1_0, true_or, or_true, bkK_v, bkK_0, wr_q, Nat.add_eq_left, Nat.left_eq_add, Nat.add_left_cancel_iff, Nat.reduceEqDiff, reduceIte, Nat.reduceEqDiff, nz_1, nz_2, nz_3, nz_4, nz_5, nz_6, nz_7, nz_8, nz_9, nz_10, nz_11, nz_12, true_and, and_true, Nat.reduceAdd, Nat.zero_add, Nat.add_zero, Nat.le_refl, Nat.reduceLeDiff, Nat.zero_le, not_true_eq_false, not_false_eq_true, false_implies, true_implies, implies_true, i0, i1, i2, i3, rI_o i1, rI_o i2, rI_o i3, hv, hv1, mI_nat (show p < 2147483648 by omega), mI_nat (show p + 1 < 2147483648 by omega), mI_pred (show 0 < p + 1 by omega), Nat.add_sub_cancel, hg.2.1, mI_m1, show ¬ nI (p + 1) ≤ 0 from fun e => by have := (mI_le (a := p + 1) (b := 0) (by omega) (by omega)).mp e; omega, bkK_x (M := gX1_layCloth) rfl, show mC gX1_layCloth = 0 from rfl, show mS gX1_layCloth = 0 from rfl]
      refine ⟨fun q => ?_, fun q => ?_⟩
      · exact fin _ h' f g u hp hl hf I s (fun _ => Int32.not_lt.mpr q)
      · have hvv := ih (wr (wr (wr h' (C + 1) (eI 10 (va_up f (p + 1) (f p)))) (C + 2) (eI 10 (va_up g (p + 1) (le p)))) (C + 3) (eI 10 (va_up u (p + 1) (u p)))) (va_up f (p + 1) (f p)) (va_up g (p + 1) (le p)) (va_up u (p + 1) (u p)) (by omega) ?_ ?_ ⟨?_, ?_, ?_, ?_, ?_, ?_, ?_, ?_⟩ (((s.wr (by omega)).wr (by omega)).wr (by omega))
        · exact hvv
        · intro j a b
          by_cases e : j = p
          · subst e; exact Int32.not_le.mp q
          · exact hl j (by omega) b
        · intro j hj
          have := hf j hj
          unfold va_up
          refine ⟨fun e => ?_, fun e => ?_⟩
          · rw [if_neg (by omega), if_neg (by omega), if_neg (by omega)]
            exact this.1 (by omega)
          · by_cases e' : j = p + 1
            · subst e'
              rw [if_pos rfl, if_pos rfl, if_pos rfl]
              exact ⟨hg.1, rfl, hg.2.2⟩
            · rw [if_neg e', if_neg e', if_neg e']
              exact this.2 (by omega)
        · simp [wr_q]; exact i0
        · simp [wr_q]
        · simp [wr_q]
        · simp [wr_q]
        · simp [wr_q]; exact i4
        · simp [wr_q]; exact i5
        · simp [wr_q]; exact i6
        · simp [wr_q]; exact i7
  exact loop ct h bo le br (Nat.le_refl _) (fun j a b => by omega) (fun j hj => ⟨fun _ => ⟨rfl, rfl, rfl⟩, fun e => by omega⟩) hI Same.rf
