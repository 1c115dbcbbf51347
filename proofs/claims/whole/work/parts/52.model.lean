/-! 52: the reference's state against the planner's; what a change keeps -/
def IsMd (h : bkHS) (D : Nat) (t : Int32) (f sa : Nat → Int64) (sv : Int32) (pa : Nat → Int64) (pm : Nat) (re : Int32) (be lo le so sl sf : Nat → Int32) (sm : Int32) (bu : Nat → Int32) (ln : Nat) (pl wq fa : Int32) : Prop :=
  h D = some (eO 8 [.ref (D + 1), .ref (D + 2), .int sv, .ref (D + 3), .int (nI pm), .int re, .int t, .ref (D + 4), .ref (D + 5), .ref (D + 6), .ref (D + 7), .ref (D + 8), .ref (D + 9), .int sm, .ref (D + 10), .int (nI ln), .int pl, .int wq, .int fa]) ∧ h (D + 1) = some (eL 211 f) ∧ h (D + 2) = some (eL 211 sa) ∧ h (D + 3) = some (eL 1688 pa) ∧ h (D + 4) = some (eI 100 be) ∧ h (D + 5) = some (eI 1024 lo) ∧ h (D + 6) = some (eI 1024 le) ∧ h (D + 7) = some (eI 10 so) ∧ h (D + 8) = some (eI 10 sl) ∧ h (D + 9) = some (eI 10 sf) ∧ h (D + 10) = some (eC 40 bu)
def REL (f sa : Nat → Int64) (sv : Int32) (pa : Nat → Int64) (pm : Nat) (re : Int32) (bu : Nat → Int32) (ln : Nat) (fa : Int32) (s : SA) : Prop :=
  RA f s.A ∧ sv = s.sv ∧ (¬ s.sv = 0 → RA sa s.N) ∧ pm = s.H.2.1 ∧ (∀ i, i < pm → RA (fun q => pa (211 * i + q)) (s.H.2.2 ((s.H.1 + 8 - s.H.2.1 + i) % 8))) ∧ re = s.re ∧ ln = s.T.2.2.2.1 ∧ (∀ j, j < ln → bu j = s.T.1 j) ∧ fa = s.T.2.2.2.2
def MOK (h : bkHS) (D : Nat) (s : SA) (t : Int32) : Prop := ∃ f sa sv pa pm re be lo le so sl sf sm bu ln pl wq fa, IsMd h D t f sa sv pa pm re be lo le so sl sf sm bu ln pl wq fa ∧ REL f sa sv pa pm re bu ln fa s
theorem md_rd {h : bkHS} {D : Nat} {t : Int32} {f sa : Nat → Int64} {sv : Int32} {pa : Nat → Int64} {pm : Nat} {re : Int32} {be lo le so sl sf : Nat → Int32} {sm : Int32} {bu : Nat → Int32} {ln : Nat} {pl wq fa : Int32} (hI : IsMd h D t f sa sv pa pm re be lo le so sl sf sm bu ln pl wq fa) : Rd h D f := ⟨_, hI.1, hI.2.1⟩
theorem md_obj {h : bkHS} {D : Nat} {t : Int32} {f sa : Nat → Int64} {sv : Int32} {pa : Nat → Int64} {pm : Nat} {re : Int32} {be lo le so sl sf : Nat → Int32} {sm : Int32} {bu : Nat → Int32} {ln : Nat} {pl wq fa : Int32} (hI : IsMd h D t f sa sv pa pm re be lo le so sl sf sm bu ln pl wq fa) {t' sv' re' sm' pl' wq' fa' : Int32} {pm' ln' : Nat} : IsMd (wr h D (eO 8 [.ref (D + 1), .ref (D + 2), .int sv', .ref (D + 3), .int (nI pm'), .int re', .int t', .ref (D + 4), .ref (D + 5), .ref (D + 6), .ref (D + 7), .ref (D + 8), .ref (D + 9), .int sm', .ref (D + 10), .int (nI ln'), .int pl', .int wq', .int fa'])) D t' f sa sv' pa pm' re' be lo le so sl sf sm' bu ln' pl' wq' fa' := by
  obtain ⟨h0, h1, h2, h3, h4, h5, h6, h7, h8, h9, h10⟩ := hI
  refine ⟨wr_s _ _ _, ?_, ?_, ?_, ?_, ?_, ?_, ?_, ?_, ?_, ?_⟩ <;> (rw [wr_n _ _ (by omega)]; assumption)
theorem md_f {h : bkHS} {D : Nat} {t : Int32} {f sa : Nat → Int64} {sv : Int32} {pa : Nat → Int64} {pm : Nat} {re : Int32} {be lo le so sl sf : Nat → Int32} {sm : Int32} {bu : Nat → Int32} {ln : Nat} {pl wq fa : Int32} (hI : IsMd h D t f sa sv pa pm re be lo le so sl sf sm bu ln pl wq fa) {f' : Nat → Int64} : IsMd (wr h (D + 1) (eL 211 f')) D t f' sa sv pa pm re be lo le so sl sf sm bu ln pl wq fa := by
  obtain ⟨h0, h1, h2, h3, h4, h5, h6, h7, h8, h9, h10⟩ := hI
  refine ⟨?_, wr_s _ _ _, ?_, ?_, ?_, ?_, ?_, ?_, ?_, ?_, ?_⟩ <;> (rw [wr_n _ _ (by omega)]; assumption)
theorem md_sa {h : bkHS} {D : Nat} {t : Int32} {f sa : Nat → Int64} {sv : Int32} {pa : Nat → Int64} {pm : Nat} {re : Int32} {be lo le so sl sf : Nat → Int32} {sm : Int32} {bu : Nat → Int32} {ln : Nat} {pl wq fa : Int32} (hI : IsMd h D t f sa sv pa pm re be lo le so sl sf sm bu ln pl wq fa) {f' : Nat → Int64} : IsMd (wr h (D + 2) (eL 211 f')) D t f f' sv pa pm re be lo le so sl sf sm bu ln pl wq fa := by
  obtain ⟨h0, h1, h2, h3, h4, h5, h6, h7, h8, h9, h10⟩ := hI
  refine ⟨?_, ?_, wr_s _ _ _, ?_, ?_, ?_, ?_, ?_, ?_, ?_, ?_⟩ <;> (rw [wr_n _ _ (by omega)]; assumption)
theorem md_pa {h : bkHS} {D : Nat} {t : Int32} {f sa : Nat → Int64} {sv : Int32} {pa : Nat → Int64} {pm : Nat} {re : Int32} {be lo le so sl sf : Nat → Int32} {sm : Int32} {bu : Nat → Int32} {ln : Nat} {pl wq fa : Int32} (hI : IsMd h D t f sa sv pa pm re be lo le so sl sf sm bu ln pl wq fa) {f' : Nat → Int64} : IsMd (wr h (D + 3) (eL 1688 f')) D t f sa sv f' pm re be lo le so sl sf sm bu ln pl wq fa := by
  obtain ⟨h0, h1, h2, h3, h4, h5, h6, h7, h8, h9, h10⟩ := hI
  refine ⟨?_, ?_, ?_, wr_s _ _ _, ?_, ?_, ?_, ?_, ?_, ?_, ?_⟩ <;> (rw [wr_n _ _ (by omega)]; assumption)
theorem md_be {h : bkHS} {D : Nat} {t : Int32} {f sa : Nat → Int64} {sv : Int32} {pa : Nat → Int64} {pm : Nat} {re : Int32} {be lo le so sl sf : Nat → Int32} {sm : Int32} {bu : Nat → Int32} {ln : Nat} {pl wq fa : Int32} (hI : IsMd h D t f sa sv pa pm re be lo le so sl sf sm bu ln pl wq fa) {f' : Nat → Int32} : IsMd (wr h (D + 4) (eI 100 f')) D t f sa sv pa pm re f' lo le so sl sf sm bu ln pl wq fa := by
  obtain ⟨h0, h1, h2, h3, h4, h5, h6, h7, h8, h9, h10⟩ := hI
  refine ⟨?_, ?_, ?_, ?_, wr_s _ _ _, ?_, ?_, ?_, ?_, ?_, ?_⟩ <;> (rw [wr_n _ _ (by omega)]; assumption)
theorem md_lo {h : bkHS} {D : Nat} {t : Int32} {f sa : Nat → Int64} {sv : Int32} {pa : Nat → Int64} {pm : Nat} {re : Int32} {be lo le so sl sf : Nat → Int32} {sm : Int32} {bu : Nat → Int32} {ln : Nat} {pl wq fa : Int32} (hI : IsMd h D t f sa sv pa pm re be lo le so sl sf sm bu ln pl wq fa) {f' : Nat → Int32} : IsMd (wr h (D + 5) (eI 1024 f')) D t f sa sv pa pm re be f' le so sl sf sm bu ln pl wq fa := by
  obtain ⟨h0, h1, h2, h3, h4, h5, h6, h7, h8, h9, h10⟩ := hI
  refine ⟨?_, ?_, ?_, ?_, ?_, wr_s _ _ _, ?_, ?_, ?_, ?_, ?_⟩ <;> (rw [wr_n _ _ (by omega)]; assumption)
theorem md_le {h : bkHS} {D : Nat} {t : Int32} {f sa : Nat → Int64} {sv : Int32} {pa : Nat → Int64} {pm : Nat} {re : Int32} {be lo le so sl sf : Nat → Int32} {sm : Int32} {bu : Nat → Int32} {ln : Nat} {pl wq fa : Int32} (hI : IsMd h D t f sa sv pa pm re be lo le so sl sf sm bu ln pl wq fa) {f' : Nat → Int32} : IsMd (wr h (D + 6) (eI 1024 f')) D t f sa sv pa pm re be lo f' so sl sf sm bu ln pl wq fa := by
  obtain ⟨h0, h1, h2, h3, h4, h5, h6, h7, h8, h9, h10⟩ := hI
  refine ⟨?_, ?_, ?_, ?_, ?_, ?_, wr_s _ _ _, ?_, ?_, ?_, ?_⟩ <;> (rw [wr_n _ _ (by omega)]; assumption)
theorem md_so {h : bkHS} {D : Nat} {t : Int32} {f sa : Nat → Int64} {sv : Int32} {pa : Nat → Int64} {pm : Nat} {re : Int32} {be lo le so sl sf : Nat → Int32} {sm : Int32} {bu : Nat → Int32} {ln : Nat} {pl wq fa : Int32} (hI : IsMd h D t f sa sv pa pm re be lo le so sl sf sm bu ln pl wq fa) {f' : Nat → Int32} : IsMd (wr h (D + 7) (eI 10 f')) D t f sa sv pa pm re be lo le f' sl sf sm bu ln pl wq fa := by
  obtain ⟨h0, h1, h2, h3, h4, h5, h6, h7, h8, h9, h10⟩ := hI
  refine ⟨?_, ?_, ?_, ?_, ?_, ?_, ?_, wr_s _ _ _, ?_, ?_, ?_⟩ <;> (rw [wr_n _ _ (by omega)]; assumption)
theorem md_sl {h : bkHS} {D : Nat} {t : Int32} {f sa : Nat → Int64} {sv : Int32} {pa : Nat → Int64} {pm : Nat} {re : Int32} {be lo le so sl sf : Nat → Int32} {sm : Int32} {bu : Nat → Int32} {ln : Nat} {pl wq fa : Int32} (hI : IsMd h D t f sa sv pa pm re be lo le so sl sf sm bu ln pl wq fa) {f' : Nat → Int32} : IsMd (wr h (D + 8) (eI 10 f')) D t f sa sv pa pm re be lo le so f' sf sm bu ln pl wq fa := by
  obtain ⟨h0, h1, h2, h3, h4, h5, h6, h7, h8, h9, h10⟩ := hI
  refine ⟨?_, ?_, ?_, ?_, ?_, ?_, ?_, ?_, wr_s _ _ _, ?_, ?_⟩ <;> (rw [wr_n _ _ (by omega)]; assumption)
theorem md_sf {h : bkHS} {D : Nat} {t : Int32} {f sa : Nat → Int64} {sv : Int32} {pa : Nat → Int64} {pm : Nat} {re : Int32} {be lo le so sl sf : Nat → Int32} {sm : Int32} {bu : Nat → Int32} {ln : Nat} {pl wq fa : Int32} (hI : IsMd h D t f sa sv pa pm re be lo le so sl sf sm bu ln pl wq fa) {f' : Nat → Int32} : IsMd (wr h (D + 9) (eI 10 f')) D t f sa sv pa pm re be lo le so sl f' sm bu ln pl wq fa := by
  obtain ⟨h0, h1, h2, h3, h4, h5, h6, h7, h8, h9, h10⟩ := hI
  refine ⟨?_, ?_, ?_, ?_, ?_, ?_, ?_, ?_, ?_, wr_s _ _ _, ?_⟩ <;> (rw [wr_n _ _ (by omega)]; assumption)
theorem md_bu {h : bkHS} {D : Nat} {t : Int32} {f sa : Nat → Int64} {sv : Int32} {pa : Nat → Int64} {pm : Nat} {re : Int32} {be lo le so sl sf : Nat → Int32} {sm : Int32} {bu : Nat → Int32} {ln : Nat} {pl wq fa : Int32} (hI : IsMd h D t f sa sv pa pm re be lo le so sl sf sm bu ln pl wq fa) {f' : Nat → Int32} : IsMd (wr h (D + 10) (eC 40 f')) D t f sa sv pa pm re be lo le so sl sf sm f' ln pl wq fa := by
  obtain ⟨h0, h1, h2, h3, h4, h5, h6, h7, h8, h9, h10⟩ := hI
  refine ⟨?_, ?_, ?_, ?_, ?_, ?_, ?_, ?_, ?_, ?_, wr_s _ _ _⟩ <;> (rw [wr_n _ _ (by omega)]; assumption)
theorem IsMd.same {h h' : bkHS} {D : Nat} {t : Int32} {f sa : Nat → Int64} {sv : Int32} {pa : Nat → Int64} {pm : Nat} {re : Int32} {be lo le so sl sf : Nat → Int32} {sm : Int32} {bu : Nat → Int32} {ln : Nat} {pl wq fa : Int32} (hI : IsMd h D t f sa sv pa pm re be lo le so sl sf sm bu ln pl wq fa) (hs : ∀ q, D ≤ q → q < D + 11 → h' q = h q) : IsMd h' D t f sa sv pa pm re be lo le so sl sf sm bu ln pl wq fa := by
  obtain ⟨h0, h1, h2, h3, h4, h5, h6, h7, h8, h9, h10⟩ := hI
  refine ⟨?_, ?_, ?_, ?_, ?_, ?_, ?_, ?_, ?_, ?_, ?_⟩ <;> (rw [hs _ (by omega) (by omega)]; assumption)
theorem MOK.same {h h' : bkHS} {D : Nat} {s : SA} {t : Int32} (hI : MOK h D s t) (hs : ∀ q, D ≤ q → q < D + 11 → h' q = h q) : MOK h' D s t := by
  obtain ⟨f, sa, sv, pa, pm, re, be, lo, le, so, sl, sf, sm, bu, ln, pl, wq, fa, hI, hR⟩ := hI
  exact ⟨f, sa, sv, pa, pm, re, be, lo, le, so, sl, sf, sm, bu, ln, pl, wq, fa, hI.same hs, hR⟩
theorem ra_congr {f f' : Nat → Int64} {A : PA} (hv : VA A) (h : ∀ q, q < 211 → f' q = f q) (ha : RA f A) : RA f' A := by
  obtain ⟨a0, a1, a2, a3, a4, a5, a6, a7, a8, a9, a10, a11, π, ρ, a12, a13⟩ := ha
  have n1 := hv.1
  have n2 := hv.2.2.2.2.1.1
  have n3 := hv.2.2.2.2.2.1.1
  refine ⟨fun w hw => (h _ (by omega)).trans (a0 w hw), fun w hw => (h _ (by omega)).trans (a1 w hw), (h _ (by omega)).trans a2, (h _ (by omega)).trans a3, (h _ (by omega)).trans a4, (h _ (by omega)).trans a5, (h _ (by omega)).trans a6, (h _ (by omega)).trans a7, (h _ (by omega)).trans a8, fun w hw => (h _ (by omega)).trans (a9 w hw), fun b hb w hw => (h _ (by omega)).trans (a10 b hb w hw), fun k hk => ?_, π, ρ, fun k hk => ?_, a13⟩
  · have := a11 k hk
    exact ⟨(h _ (by omega)).trans this.1, (h _ (by omega)).trans this.2.1, (h _ (by omega)).trans this.2.2⟩
  · have := a12 k hk
    exact ⟨this.1, this.2.1, (h _ (by omega)).trans this.2.2.1, (h _ (by omega)).trans this.2.2.2.1, (h _ (by omega)).trans this.2.2.2.2⟩
theorem mI_211 (a : Nat) : 211 * nI a = nI (211 * a) := mI_mul 211 a
theorem m_thrown {G : bkG} {h : bkHS} {D : Nat} {s : SA} {t : Int32} (hM : MOK h D s t) {Post : bkPo} (hP : Post (.inl (some (.int t))) h none) : CM G gX9_thrown [.ref D] h none Post := by
  obtain ⟨f, sa, sv, pa, pm, re, be, lo, le, so, sl, sf, sm, bu, ln, pl, wq, fa, hI, hR⟩ := hM
  refine meth (lv := [some (.ref D)]) ok_gX9_thrown (by decide) rfl (Nat.le_of_ble_eq_true rfl) rfl ?_
  simp only [r_X9_thrown_0, r_X9_thrown_1, r_X9_thrown_4, fGet_0, fGet_1, fGet_2, fGet_3, fGet_4, fGet_5, fGet_6, fGet_7, fGet_8, fGet_9, fGet_10, fGet_11, fGet_12, fGet_13, fGet_14, fGet_15, fGet_16, fGet_17, fGet_18, fOk_0, fOk_1, fOk_2, fOk_3, fOk_4, fOk_5, fOk_6, fOk_7, fOk_8, fOk_9, fOk_10, fOk_11, fOk_12, fOk_13, fOk_14, fOk_15, fOk_16, fOk_17, fOk_18, fSet_0, fSet_1, fSet_2, fSet_3, fSet_4, fSet_5, fSet_6, fSet_7, fSet_8, fSet_9, fSet_10, fSet_11, fSet_12, fSet_13, fSet_14, fSet_15, fSet_16, fSet_17, fSet_18, bkIs_e, rIw_o, rL_o, rC_o, rD_o, rQ_o, bkIn_o, bkEl_o, bkUp_o, cats_n, cats_i, cats_r, cats_l, cats_d, kl_i, kl_r, kl_n, kl_l, kl_d, rI_w, ok_b0, ok_b1, ile_0_1, ile_1_0, true_or, or_true, bkK_v, bkK_0, wr_q, Nat.add_eq_left, Nat.left_eq_add, Nat.add_left_cancel_iff, Nat.reduceEqDiff, reduceIte, Nat.reduceEqDiff, nz_1, nz_2, nz_3, nz_4, nz_5, nz_6, nz_7, nz_8, nz_9, nz_10, nz_11, nz_12, true_and, and_true, Nat.reduceAdd, Nat.zero_add, Nat.add_zero, Nat.le_refl, Nat.reduceLeDiff, Nat.zero_le, not_true_eq_false, not_false_eq_true, false_implies, true_implies, implies_true, hI.1, bkK_x (M := gX9_thrown) rfl, show mC gX9_thrown = 0 from rfl, show mS gX9_thrown = 0 from rfl]
  exact hP
theorem m_changeI {G : bkG} {h : bkHS} {D : Nat} {s : SA} {t : Int32} {f sa : Nat → Int64} {sv : Int32} {pa : Nat → Int64} {pm : Nat} {re : Int32} {be lo le so sl sf : Nat → Int32} {sm : Int32} {bu : Nat → Int32} {ln : Nat} {pl wq fa : Int32} (hI : IsMd h D t f sa sv pa pm re be lo le so sl sf sm bu ln pl wq fa) (hR : REL f sa sv pa pm re bu ln fa s) (hv : VS s) {Post : bkPo} (hP : ∀ h' pa' pm', IsMd h' D t f sa sv pa' pm' re be lo le so sl sf sm bu ln pl wq fa → REL f sa sv pa' pm' re bu ln fa (s.chg s.A) → Same h h' D 11 → Post (.inl none) h' none) : CM G gX9_change [.ref D] h none Post := by
  obtain ⟨r0, r1, r2, r3, r4, r5, r6, r7, r8⟩ := hR
  have hs1 := hv.2.2.1
  have hs2 := hv.2.2.2.1
  have tail : ∀ h1 pm1 pa1, pm1 < 8 → IsMd h1 D t f sa sv pa1 pm1 re be lo le so sl sf sm bu ln pl wq fa → Same h h1 D 11 → pm1 + 1 = min (s.H.2.1 + 1) 8 → (∀ i, i < pm1 → RA (fun q => pa1 (211 * i + q)) (s.H.2.2 ((s.H.1 + 8 - pm1 + i) % 8))) → wp G gX9_change Post 37 [some (.ref D)] [] h1 none 0 0 := by
    intro h1 pm1 pa1 hp I1 s1 hm hpa
    simp only [r_X9_change_0, r_X9_change_1, r_X9_change_4, r_X9_change_6, r_X9_change_9, r_X9_change_10, r_X9_change_13, r_X9_change_16, r_X9_change_17, r_X9_change_20, r_X9_change_21, r_X9_change_27, r_X9_change_28, r_X9_change_29, r_X9_change_32, r_X9_change_33, r_X9_change_34, r_X9_change_37, r_X9_change_38, r_X9_change_41, r_X9_change_42, r_X9_change_43, r_X9_change_46, r_X9_change_49, r_X9_change_50, r_X9_change_53, r_X9_change_54, r_X9_change_60, r_X9_change_61, r_X9_change_62, r_X9_change_65, r_X9_change_66, r_X9_change_67, r_X9_change_70, fGet_0, fGet_1, fGet_2, fGet_3, fGet_4, fGet_5, fGet_6, fGet_7, fGet_8, fGet_9, fGet_10, fGet_11, fGet_12, fGet_13, fGet_14, fGet_15, fGet_16, fGet_17, fGet_18, fOk_0, fOk_1, fOk_2, fOk_3, fOk_4, fOk_5, fOk_6, fOk_7, fOk_8, fOk_9, fOk_10, fOk_11, fOk_12, fOk_13, fOk_14, fOk_15, fOk_16, fOk_17, fOk_18, fSet_0, fSet_1, fSet_2, fSet_3, fSet_4, fSet_5, fSet_6, fSet_7, fSet_8, fSet_9, fSet_10, fSet_11, fSet_12, fSet_13, fSet_14, fSet_15, fSet_16, fSet_17, fSet_18, bkIs_e, rIw_o, rL_o, rC_o, rD_o, rQ_o, bkIn_o, bkEl_o, bkUp_o, cats_n, cats_i, cats_r, cats_l, cats_d, kl_i, kl_r, kl_n, kl_l, kl_d, rI_w, ok_b0, ok_b1, ile_0_1, ile_1_0, true_or, or_true, bkK_v, bkK_0, wr_q, Nat.add_eq_left, Nat.left_eq_add, Nat.add_left_cancel_iff, Nat.reduceEqDiff, reduceIte, Nat.reduceEqDiff, nz_1, nz_2, nz_3, nz_4, nz_5, nz_6, nz_7, nz_8, nz_9, nz_10, nz_11, nz_12, true_and, and_true, Nat.reduceAdd, Nat.zero_add, Nat.add_zero, Nat.le_refl, Nat.reduceLeDiff, Nat.zero_le, not_true_eq_false, not_false_eq_true, false_implies, true_implies, implies_true, I1.1, mI_211, bkK_x (M := gX9_change) rfl, show mC gX9_change = 0 from rfl, show mS gX9_change = 0 from rfl]
    refine e_copyL (g' := fun q => if 211 * pm1 ≤ q ∧ q < 211 * pm1 + 211 then f (q - 211 * pm1) else pa1 q) dc_X9_change_57 rfl rfl I1.2.1 I1.2.2.2.1 (by decide) (by decide) (mI_neg (by omega)) (by decide) (Nat.le_of_ble_eq_true rfl) ?_ ?_ ?_
    · rw [mI_nat (by omega)]
      show 211 * pm1 + 211 ≤ 1688
      omega
    · intro j _
      unfold va_cpy
      rw [mI_nat (by omega)]
      show _ = if 211 * pm1 ≤ j ∧ j < 211 * pm1 + 211 then f (0 + (j - 211 * pm1)) else pa1 j
      rw [Nat.zero_add]
    simp only [r_X9_change_0, r_X9_change_1, r_X9_change_4, r_X9_change_6, r_X9_change_9, r_X9_change_10, r_X9_change_13, r_X9_change_16, r_X9_change_17, r_X9_change_20, r_X9_change_21, r_X9_change_27, r_X9_change_28, r_X9_change_29, r_X9_change_32, r_X9_change_33, r_X9_change_34, r_X9_change_37, r_X9_change_38, r_X9_change_41, r_X9_change_42, r_X9_change_43, r_X9_change_46, r_X9_change_49, r_X9_change_50, r_X9_change_53, r_X9_change_54, r_X9_change_60, r_X9_change_61, r_X9_change_62, r_X9_change_65, r_X9_change_66, r_X9_change_67, r_X9_change_70, fGet_0, fGet_1, fGet_2, fGet_3, fGet_4, fGet_5, fGet_6, fGet_7, fGet_8, fGet_9, fGet_10, fGet_11, fGet_12, fGet_13, fGet_14, fGet_15, fGet_16, fGet_17, fGet_18, fOk_0, fOk_1, fOk_2, fOk_3, fOk_4, fOk_5, fOk_6, fOk_7, fOk_8, fOk_9, fOk_10, fOk_11, fOk_12, fOk_13, fOk_14, fOk_15, fOk_16, fOk_17, fOk_18, fSet_0, fSet_1, fSet_2, fSet_3, fSet_4, fSet_5, fSet_6, fSet_7, fSet_8, fSet_9, fSet_10, fSet_11, fSet_12, fSet_13, fSet_14, fSet_15, fSet_16, fSet_17, fSet_18, bkIs_e, rIw_o, rL_o, rC_o, rD_o, rQ_o, bkIn_o, bkEl_o, bkUp_o, cats_n, cats_i, cats_r, cats_l, cats_d, kl_i, kl_r, kl_n, kl_l, kl_d, rI_w, ok_b0, ok_b1, ile_0_1, ile_1_0, true_or, or_true, bkK_v, bkK_0, wr_q, Nat.add_eq_left, Nat.left_eq_add, Nat.add_left_cancel_iff, Nat.reduceEqDiff, reduceIte, Nat.reduceEqDiff, nz_1, nz_2, nz_3, nz_4, nz_5, nz_6, nz_7, nz_8, nz_9, nz_10, nz_11, nz_12, true_and, and_true, Nat.reduceAdd, Nat.zero_add, Nat.add_zero, Nat.le_refl, Nat.reduceLeDiff, Nat.zero_le, not_true_eq_false, not_false_eq_true, false_implies, true_implies, implies_true, I1.1, mI_succ, bkK_x (M := gX9_change) rfl, show mC gX9_change = 0 from rfl, show mS gX9_change = 0 from rfl]
    refine hP _ _ (pm1 + 1) (md_obj (md_pa I1)) ⟨r0, r1, r2, hm, fun i hi => ?_, r5, r6, r7, r8⟩ ((s1.wr (by omega)).wr (by omega))
    by_cases q : i = pm1
    · subst q
      have e1 : ((s.H.1 + 1) % 8 + 8 - min (s.H.2.1 + 1) 8 + i) % 8 = s.H.1 := by omega
      show RA _ (if ((s.H.1 + 1) % 8 + 8 - min (s.H.2.1 + 1) 8 + i) % 8 = s.H.1 then s.A else _)
      rw [if_pos e1]
      refine ra_congr hv.1 (fun q hq => ?_) r0
      dsimp only
      rw [if_pos (by omega)]
      congr 1
      omega
    · have e1 : ((s.H.1 + 1) % 8 + 8 - min (s.H.2.1 + 1) 8 + i) % 8 = (s.H.1 + 8 - pm1 + i) % 8 := by omega
      show RA _ (if ((s.H.1 + 1) % 8 + 8 - min (s.H.2.1 + 1) 8 + i) % 8 = s.H.1 then s.A else s.H.2.2 (((s.H.1 + 1) % 8 + 8 - min (s.H.2.1 + 1) 8 + i) % 8))
      rw [e1, if_neg (by omega)]
      refine ra_congr (hv.2.2.2.2.1 _ (Nat.mod_lt _ (by omega))) (fun q hq => ?_) (hpa i (by omega))
      dsimp only
      rw [if_neg (by omega)]
  refine meth (lv := [some (.ref D)]) ok_gX9_change (by decide) rfl (Nat.le_of_ble_eq_true rfl) rfl ?_
  by_cases h8 : pm = 8
  · subst h8
    simp only [r_X9_change_0, r_X9_change_1, r_X9_change_4, r_X9_change_6, r_X9_change_9, r_X9_change_10, r_X9_change_13, r_X9_change_16, r_X9_change_17, r_X9_change_20, r_X9_change_21, r_X9_change_27, r_X9_change_28, r_X9_change_29, r_X9_change_32, r_X9_change_33, r_X9_change_34, r_X9_change_38, r_X9_change_41, r_X9_change_42, r_X9_change_43, r_X9_change_46, r_X9_change_49, r_X9_change_50, r_X9_change_53, r_X9_change_54, r_X9_change_60, r_X9_change_61, r_X9_change_62, r_X9_change_65, r_X9_change_66, r_X9_change_67, r_X9_change_70, fGet_0, fGet_1, fGet_2, fGet_3, fGet_4, fGet_5, fGet_6, fGet_7, fGet_8, fGet_9, fGet_10, fGet_11, fGet_12, fGet_13, fGet_14, fGet_15, fGet_16, fGet_17, fGet_18, fOk_0, fOk_1, fOk_2, fOk_3, fOk_4, fOk_5, fOk_6, fOk_7, fOk_8, fOk_9, fOk_10, fOk_11, fOk_12, fOk_13, fOk_14, fOk_15, fOk_16, fOk_17, fOk_18, fSet_0, fSet_1, fSet_2, fSet_3, fSet_4, fSet_5, fSet_6, fSet_7, fSet_8, fSet_9, fSet_10, fSet_11, fSet_12, fSet_13, fSet_14, fSet_15, fSet_16, fSet_17, fSet_18, bkIs_e, rIw_o, rL_o, rC_o, rD_o, rQ_o, bkIn_o, bkEl_o, bkUp_o, cats_n, cats_i, cats_r, cats_l, cats_d, kl_i, kl_r, kl_n, kl_l, kl_d, rI_w, ok_b0, ok_b1, ile_0_1, ile_1_0, true_or, or_true, bkK_v, bkK_0, wr_q, Nat.add_eq_left, Nat.left_eq_add, Nat.add_left_cancel_iff, Nat.reduceEqDiff, reduceIte, Nat.reduceEqDiff, nz_1, nz_2, nz_3, nz_4, nz_5, nz_6, nz_7, nz_8, nz_9, nz_10, nz_11, nz_12, true_and, and_true, Nat.reduceAdd, Nat.zero_add, Nat.add_zero, Nat.le_refl, Nat.reduceLeDiff, Nat.zero_le, not_true_eq_false, not_false_eq_true, false_implies, true_implies, implies_true, hI.1, show (nI 8 = 8) = True from eq_true rfl, bkK_x (M := gX9_change) rfl, show mC gX9_change = 0 from rfl, show mS gX9_change = 0 from rfl]
    refine e_copyL (g' := fun q => if q < 1477 then pa (q + 211) else pa q) dc_X9_change_24 rfl rfl hI.2.2.2.1 hI.2.2.2.1 (by decide) (by decide) (by decide) (by decide) (Nat.le_of_ble_eq_true rfl) (Nat.le_of_ble_eq_true rfl) ?_ ?_
    · intro j _
      unfold va_cpy
      show _ = if 0 ≤ j ∧ j < 0 + 1477 then pa (211 + (j - 0)) else pa j
      by_cases q : j < 1477
      · rw [if_pos q, if_pos (by omega)]; congr 1; omega
      · rw [if_neg q, if_neg (by omega)]
    simp only [r_X9_change_0, r_X9_change_1, r_X9_change_4, r_X9_change_6, r_X9_change_9, r_X9_change_10, r_X9_change_13, r_X9_change_16, r_X9_change_17, r_X9_change_20, r_X9_change_21, r_X9_change_27, r_X9_change_28, r_X9_change_29, r_X9_change_32, r_X9_change_33, r_X9_change_34, r_X9_change_38, r_X9_change_41, r_X9_change_42, r_X9_change_43, r_X9_change_46, r_X9_change_49, r_X9_change_50, r_X9_change_53, r_X9_change_54, r_X9_change_60, r_X9_change_61, r_X9_change_62, r_X9_change_65, r_X9_change_66, r_X9_change_67, r_X9_change_70, fGet_0, fGet_1, fGet_2, fGet_3, fGet_4, fGet_5, fGet_6, fGet_7, fGet_8, fGet_9, fGet_10, fGet_11, fGet_12, fGet_13, fGet_14, fGet_15, fGet_16, fGet_17, fGet_18, fOk_0, fOk_1, fOk_2, fOk_3, fOk_4, fOk_5, fOk_6, fOk_7, fOk_8, fOk_9, fOk_10, fOk_11, fOk_12, fOk_13, fOk_14, fOk_15, fOk_16, fOk_17, fOk_18, fSet_0, fSet_1, fSet_2, fSet_3, fSet_4, fSet_5, fSet_6, fSet_7, fSet_8, fSet_9, fSet_10, fSet_11, fSet_12, fSet_13, fSet_14, fSet_15, fSet_16, fSet_17, fSet_18, bkIs_e, rIw_o, rL_o, rC_o, rD_o, rQ_o, bkIn_o, bkEl_o, bkUp_o, cats_n, cats_i, cats_r, cats_l, cats_d, kl_i, kl_r, kl_n, kl_l, kl_d, rI_w, ok_b0, ok_b1, ile_0_1, ile_1_0, true_or, or_true, bkK_v, bkK_0, wr_q, Nat.add_eq_left, Nat.left_eq_add, Nat.add_left_cancel_iff, Nat.reduceEqDiff, reduceIte, Nat.reduceEqDiff, nz_1, nz_2, nz_3, nz_4, nz_5, nz_6, nz_7, nz_8, nz_9, nz_10, nz_11, nz_12, true_and, and_true, Nat.reduceAdd, Nat.zero_add, Nat.add_zero, Nat.le_refl, Nat.reduceLeDiff, Nat.zero_le, not_true_eq_false, not_false_eq_true, false_implies, true_implies, implies_true, hI.1, show nI 8 - 1 = nI 7 from by decide, bkK_x (M := gX9_change) rfl, show mC gX9_change = 0 from rfl, show mS gX9_change = 0 from rfl]
    refine tail _ 7 _ (by omega) (md_obj (md_pa hI)) ((Same.rf.wr (by omega)).wr (by omega)) (by omega) fun i hi => ?_
    have := r4 (i + 1) (by omega)
    rw [← r3] at this
    rw [show (s.H.1 + 8 - 7 + i) % 8 = (s.H.1 + 8 - 8 + (i + 1)) % 8 by omega]
    refine ra_congr (hv.2.2.2.2.1 _ (Nat.mod_lt _ (by omega))) (fun q hq => ?_) this
    rw [if_pos (by omega)]
    congr 1
    omega
  · simp only [r_X9_change_0, r_X9_change_1, r_X9_change_4, r_X9_change_6, r_X9_change_10, r_X9_change_13, r_X9_change_16, r_X9_change_17, r_X9_change_20, r_X9_change_21, r_X9_change_27, r_X9_change_28, r_X9_change_29, r_X9_change_32, r_X9_change_33, r_X9_change_34, r_X9_change_38, r_X9_change_41, r_X9_change_42, r_X9_change_43, r_X9_change_46, r_X9_change_49, r_X9_change_50, r_X9_change_53, r_X9_change_54, r_X9_change_60, r_X9_change_61, r_X9_change_62, r_X9_change_65, r_X9_change_66, r_X9_change_67, r_X9_change_70, fGet_0, fGet_1, fGet_2, fGet_3, fGet_4, fGet_5, fGet_6, fGet_7, fGet_8, fGet_9, fGet_10, fGet_11, fGet_12, fGet_13, fGet_14, fGet_15, fGet_16, fGet_17, fGet_18, fOk_0, fOk_1, fOk_2, fOk_3, fOk_4, fOk_5, fOk_6, fOk_7, fOk_8, fOk_9, fOk_10, fOk_11, fOk_12, fOk_13, fOk_14, fOk_15, fOk_16, fOk_17, fOk_18, fSet_0, fSet_1, fSet_2, fSet_3, fSet_4, fSet_5, fSet_6, fSet_7, fSet_8, fSet_9, fSet_10, fSet_11, fSet_12, fSet_13, fSet_14, fSet_15, fSet_16, fSet_17, fSet_18, bkIs_e, rIw_o, rL_o, rC_o, rD_o, rQ_o, bkIn_o, bkEl_o, bkUp_o, cats_n, cats_i, cats_r, cats_l, cats_d, kl_i, kl_r, kl_n, kl_l, kl_d, rI_w, ok_b0, ok_b1, ile_0_1, ile_1_0, true_or, or_true, bkK_v, bkK_0, wr_q, Nat.add_eq_left, Nat.left_eq_add, Nat.add_left_cancel_iff, Nat.reduceEqDiff, reduceIte, Nat.reduceEqDiff, nz_1, nz_2, nz_3, nz_4, nz_5, nz_6, nz_7, nz_8, nz_9, nz_10, nz_11, nz_12, true_and, and_true, Nat.reduceAdd, Nat.zero_add, Nat.add_zero, Nat.le_refl, Nat.reduceLeDiff, Nat.zero_le, not_true_eq_false, not_false_eq_true, false_implies, true_implies, implies_true, hI.1, mI_inj (show pm < 2147483648 by omega) (show 8 < 2147483648 by omega), show ¬ nI pm = 8 from fun e => h8 ((mI_inj (a := pm) (b := 8) (by omega) (by omega)).mp e), bkK_x (M := gX9_change) rfl, show mC gX9_change = 0 from rfl, show mS gX9_change = 0 from rfl]
    refine tail _ pm pa (by omega) hI Same.rf (by omega) fun i hi => ?_
    have := r4 i hi
    rw [← r3] at this
    exact this
theorem m_change {G : bkG} {h : bkHS} {D : Nat} {s : SA} {t : Int32} (hM : MOK h D s t) (hv : VS s) {Post : bkPo} (hP : ∀ h', MOK h' D (s.chg s.A) t → Same h h' D 11 → Post (.inl none) h' none) : CM G gX9_change [.ref D] h none Post := by
  obtain ⟨f, sa, sv, pa, pm, re, be, lo, le, so, sl, sf, sm, bu, ln, pl, wq, fa, hI, hR⟩ := hM
  exact m_changeI hI hR hv fun h' pa' pm' a b c => hP h' ⟨_, _, _, _, _, _, _, _, _, _, _, _, _, _, _, _, _, _, a, b⟩ c
