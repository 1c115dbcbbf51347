/-! 34: the cutter's least length -/
def CutOK (S : CA) (P : Nat → Nat) (w l : Nat → Nat) (ro : Nat) : Prop :=
  S.ct ≤ 10 ∧ S.ro = nI ro ∧ ro ≤ 5000 ∧ (∀ j, j < S.ct → P j < 10 ∧ S.le j = nI (l (P j)) ∧ S.br j = nI (w (P j)) ∧ l (P j) ≤ 1000 ∧ w (P j) ≤ ro) ∧ ∀ i j, i < j → j < S.ct → P i ≠ P j ∧ l (P j) ≤ l (P i)
def TabAt (bs ll : Nat → Int32) (P w l : Nat → Nat) (ro u : Nat) : Prop := ∃ v, bs u = nI (sumB w (pls P u) 10) ∧ ll u = nI v ∧ Lst w l ro (pls P u) v ∧ v ≤ 1000 * u
def yOf (P : Nat → Nat) (u x : Nat) : BS := fun b => pls P u b || b == x
theorem cut_inj {S : CA} {P w l : Nat → Nat} {ro i j : Nat} (h : CutOK S P w l ro) (hi : i < S.ct) (hj : j < S.ct) (e : P i = P j) : i = j := by
  rcases Nat.lt_trichotomy i j with q | q | q
  · exact absurd e (h.2.2.2.2 i j q hj).1
  · exact q
  · exact absurd e.symm (h.2.2.2.2 j i q hi).1
theorem bit_lt {t c k : Nat} (ht : t < 2 ^ c) (hk : t.testBit k = true) : k < c := by
  by_cases q : k < c
  · exact q
  · have : t < 2 ^ k := Nat.lt_of_lt_of_le ht (Nat.pow_le_pow_right (by omega) (by omega))
    rw [Nat.testBit_lt_two_pow this] at hk
    exact absurd hk Bool.false_ne_true
theorem sub_bit {u o k : Nat} (h : u &&& o = u) (hk : u.testBit k = true) : o.testBit k = true := by
  rw [← h, Nat.testBit_and] at hk
  exact (Bool.and_eq_true_iff.mp hk).2
theorem t_lt {S : CA} {P w l : Nat → Nat} {ro t : Nat} (hC : CutOK S P w l ro) (ht : t < 2 ^ S.ct) (h0 : 0 < t) : t < 1024 := Nat.lt_of_lt_of_le ht (show 2 ^ S.ct ≤ 2 ^ 10 from Nat.pow_le_pow_right (by omega) hC.1)
theorem o_bit {S : CA} {P w l : Nat → Nat} {ro t : Nat} (hC : CutOK S P w l ro) (ht : t < 2 ^ S.ct) (h0 : 0 < t) {k : Nat} : (t &&& (t - 1)).testBit k = true ↔ t.testBit k = true ∧ k ≠ low 10 t := by
  have hF := fin_and t (t_lt hC ht h0) h0
  constructor
  · intro h
    have h1 : t.testBit k = true := by
      rw [Nat.testBit_and] at h; exact (Bool.and_eq_true_iff.mp h).1
    have hk := bit_lt (c := 10) (t_lt hC ht h0) h1
    have := (hF.2.2.2 k hk).1
    rw [h, h1] at this
    exact ⟨h1, by simpa using this⟩
  · intro h
    have hk := bit_lt (c := 10) (t_lt hC ht h0) h.1
    rw [(hF.2.2.2 k hk).1, h.1]
    simp [h.2]
theorem q_lt {S : CA} {P w l : Nat → Nat} {ro t : Nat} (hC : CutOK S P w l ro) (ht : t < 2 ^ S.ct) (h0 : 0 < t) : low 10 t < S.ct := bit_lt ht (fin_and t (t_lt hC ht h0) h0).2.1
theorem y_sub {S : CA} {P w l : Nat → Nat} {ro t : Nat} (hC : CutOK S P w l ro) (ht : t < 2 ^ S.ct) (h0 : 0 < t) {u : Nat} (hu : u &&& (t &&& (t - 1)) = u) : sbs (yOf P u (P (low 10 t))) (pls P t) := by
  have hF := fin_and t (t_lt hC ht h0) h0
  intro b hb
  unfold yOf at hb
  rcases Bool.or_eq_true_iff.mp hb with e | e
  · obtain ⟨k, h1, h2, h3⟩ := pls_t.mp e
    exact pls_t.mpr ⟨k, h1, ((o_bit hC ht h0).mp (sub_bit hu h2)).1, h3⟩
  · exact pls_t.mpr ⟨low 10 t, hF.1, hF.2.1, (beq_iff_eq.mp e).symm⟩
theorem y_not {S : CA} {P w l : Nat → Nat} {ro t : Nat} (hC : CutOK S P w l ro) (ht : t < 2 ^ S.ct) (h0 : 0 < t) {u : Nat} (hu : u &&& (t &&& (t - 1)) = u) : pls P u (P (low 10 t)) = false := by
  cases e : pls P u (P (low 10 t)) with
  | false => rfl
  | true =>
    obtain ⟨k, h1, h2, h3⟩ := pls_t.mp e
    have := (o_bit hC ht h0).mp (sub_bit hu h2)
    exact absurd (cut_inj hC (bit_lt ht this.1) (q_lt hC ht h0) h3) this.2
theorem y_sum {S : CA} {P w l : Nat → Nat} {ro t : Nat} (hC : CutOK S P w l ro) (ht : t < 2 ^ S.ct) (h0 : 0 < t) {u : Nat} (hu : u &&& (t &&& (t - 1)) = u) : sumB w (yOf P u (P (low 10 t))) 10 = sumB w (pls P u) 10 + w (P (low 10 t)) := by
  refine sumB_ins (fun b hb => ?_) ?_ (y_not hC ht h0 hu) 10 (hC.2.2.2.1 _ (q_lt hC ht h0)).1
  · unfold yOf
    rw [show (b == P (low 10 t)) = false by simpa using hb, Bool.or_false]
  · unfold yOf
    rw [show (P (low 10 t) == P (low 10 t)) = true by simp, Bool.or_true]
theorem y_max {S : CA} {P w l : Nat → Nat} {ro t : Nat} (hC : CutOK S P w l ro) (ht : t < 2 ^ S.ct) (h0 : 0 < t) {u : Nat} (hu : u &&& (t &&& (t - 1)) = u) : maxB l (yOf P u (P (low 10 t))) 10 = l (P (low 10 t)) := by
  have hF := fin_and t (t_lt hC ht h0) h0
  refine maxB_top ?_ (hC.2.2.2.1 _ (q_lt hC ht h0)).1 fun b _ hb => ?_
  · unfold yOf
    rw [show (P (low 10 t) == P (low 10 t)) = true by simp, Bool.or_true]
  · obtain ⟨k, h1, h2, h3⟩ := pls_t.mp (y_sub hC ht h0 hu b hb)
    have hk := bit_lt ht h2
    by_cases q : k = low 10 t
    · rw [← h3, q]; exact Nat.le_refl _
    · have : low 10 t < k := by
        by_cases c : k < low 10 t
        · have := (hF.2.2.2 k h1).2 c
          rw [h2] at this
          exact absurd this (by decide)
        · omega
      rw [← h3]
      exact (hC.2.2.2.2 _ _ this hk).2
theorem y_dif {S : CA} {P w l : Nat → Nat} {ro t : Nat} (hC : CutOK S P w l ro) (ht : t < 2 ^ S.ct) (h0 : 0 < t) {u : Nat} (hu : u &&& (t &&& (t - 1)) = u) : dif (pls P t) (yOf P u (P (low 10 t))) = pls P ((t &&& (t - 1)) ^^^ u) := by
  funext b
  apply Bool.eq_iff_iff.mpr
  rw [dif_t]
  constructor
  · intro ⟨h1, h2⟩
    obtain ⟨k, a, c, d⟩ := pls_t.mp h1
    unfold yOf at h2
    obtain ⟨e, f⟩ := Bool.or_eq_false_iff.mp h2
    have hk : k ≠ low 10 t := fun q => by rw [← d, q] at f; simp at f
    have ho := (o_bit hC ht h0).mpr ⟨c, hk⟩
    refine pls_t.mpr ⟨k, a, ?_, d⟩
    rw [Nat.testBit_xor, ho]
    cases g : u.testBit k with
    | false => rfl
    | true => rw [pls_t.mpr ⟨k, a, g, d⟩] at e; exact absurd e (by decide)
  · intro h
    obtain ⟨k, a, c, d⟩ := pls_t.mp h
    rw [Nat.testBit_xor] at c
    have hk : (t &&& (t - 1)).testBit k = true ∧ u.testBit k = false := by
      cases g : u.testBit k with
      | false => rw [g] at c; exact ⟨by simpa using c, rfl⟩
      | true => rw [g, sub_bit hu g] at c; exact absurd c (by decide)
    have ho := (o_bit hC ht h0).mp hk.1
    refine ⟨pls_t.mpr ⟨k, a, ho.1, d⟩, ?_⟩
    unfold yOf
    apply Bool.or_eq_false_iff.mpr
    constructor
    · cases e : pls P u b with
      | false => rfl
      | true =>
        obtain ⟨k', a', c', d'⟩ := pls_t.mp e
        have := cut_inj hC (bit_lt ht ho.1) (bit_lt ht ((o_bit hC ht h0).mp (sub_bit hu c')).1) (d.trans d'.symm)
        subst this
        rw [hk.2] at c'
        exact absurd c' (by decide)
    · have : b ≠ P (low 10 t) := fun q => ho.2 (cut_inj hC (bit_lt ht ho.1) (q_lt hC ht h0) (d.trans q))
      simpa using this
theorem y_all {S : CA} {P w l : Nat → Nat} {ro t : Nat} (hC : CutOK S P w l ro) (ht : t < 2 ^ S.ct) (h0 : 0 < t) {Y : BS} (hY : sbs Y (pls P t)) (hx : Y (P (low 10 t)) = true) : ∃ u, u &&& (t &&& (t - 1)) = u ∧ Y = yOf P u (P (low 10 t)) := by
  have hu : ∀ k, (mkM (fun k => (t &&& (t - 1)).testBit k && Y (P k)) 10).testBit k = ((t &&& (t - 1)).testBit k && Y (P k)) := by
    intro k
    rw [mkM_bit]
    by_cases q : k < 10
    · rw [show decide (k < 10) = true by simpa using q, Bool.true_and]
    · rw [show decide (k < 10) = false by simpa using q, Bool.false_and]
      cases e : (t &&& (t - 1)).testBit k with
      | false => rfl
      | true => exact absurd (bit_lt (c := 10) (t_lt hC ht h0) ((o_bit hC ht h0).mp e).1) q
  refine ⟨mkM (fun k => (t &&& (t - 1)).testBit k && Y (P k)) 10, ?_, ?_⟩
  · apply bit_eq
    intro k
    rw [Nat.testBit_and, hu]
    cases (t &&& (t - 1)).testBit k <;> cases Y (P k) <;> rfl
  · funext b
    apply Bool.eq_iff_iff.mpr
    unfold yOf
    constructor
    · intro h
      obtain ⟨k, a, c, d⟩ := pls_t.mp (hY b h)
      apply Bool.or_eq_true_iff.mpr
      by_cases q : k = low 10 t
      · exact Or.inr (by rw [← d, q]; simp)
      · refine Or.inl (pls_t.mpr ⟨k, a, ?_, d⟩)
        rw [hu, (o_bit hC ht h0).mpr ⟨c, q⟩, d, h]; rfl
    · intro h
      rcases Bool.or_eq_true_iff.mp h with e | e
      · obtain ⟨k, a, c, d⟩ := pls_t.mp e
        rw [hu] at c
        rw [← d]
        exact (Bool.and_eq_true_iff.mp c).2
      · rw [beq_iff_eq.mp e]; exact hx
theorem c_longestOf {G : bkG} {h : bkHS} {t : Nat} (ht : t < 1024) (h0 : 0 < t) {Post : bkPo} (hP : Post (.inl (some (.int (nI (low 10 t))))) h none) : CM G gX1_longestOf [.int (nI t)] h none Post := by
  refine meth (lv := [some (.int (nI t)), none]) ok_gX1_longestOf (by decide) rfl (Nat.le_of_ble_eq_true rfl) rfl ?_
  simp only [r_X1_longestOf_0, r_X1_longestOf_1, r_X1_longestOf_2, r_X1_longestOf_3, r_X1_longestOf_4, r_X1_longestOf_5, r_X1_longestOf_6, r_X1_longestOf_7, r_X1_longestOf_8, r_X1_longestOf_11, fGet_0, fGet_1, fGet_2, fGet_3, fGet_4, fGet_5, fGet_6, fGet_7, fGet_8, fGet_9, fGet_10, fGet_11, fGet_12, fGet_13, fGet_14, fGet_15, fGet_16, fGet_17, fGet_18, fOk_0, fOk_1, fOk_2, fOk_3, fOk_4, fOk_5, fOk_6, fOk_7, fOk_8, fOk_9, fOk_10, fOk_11, fOk_12, fOk_13, fOk_14, fOk_15, fOk_16, fOk_17, fOk_18, fSet_0, fSet_1, fSet_2, fSet_3, fSet_4, fSet_5, fSet_6, fSet_7, fSet_8, fSet_9, fSet_10, fSet_11, fSet_12, fSet_13, fSet_14, fSet_15, fSet_16, fSet_17, fSet_18, bkIs_e, rIw_o, rL_o, rC_o, rD_o, rQ_o, bkIn_o, bkEl_o, bkUp_o, cats_n, cats_i, cats_r, cats_l, cats_d, kl_i, kl_r, kl_n, kl_l, kl_d, rI_w, ok_b0, ok_b1, ile_0_1, ile_1_0, true_or, or_true, bkK_v, bkK_0, wr_q, Nat.add_eq_left, Nat.left_eq_add, Nat.add_left_cancel_iff, Nat.reduceEqDiff, reduceIte, Nat.reduceEqDiff, nz_1, nz_2, nz_3, nz_4, nz_5, nz_6, nz_7, nz_8, nz_9, nz_10, nz_11, nz_12, true_and, and_true, Nat.reduceAdd, Nat.zero_add, Nat.add_zero, Nat.le_refl, Nat.reduceLeDiff, Nat.zero_le, not_true_eq_false, not_false_eq_true, false_implies, true_implies, implies_true, bkK_x (M := gX1_longestOf) rfl, show mC gX1_longestOf = 0 from rfl, show mS gX1_longestOf = 0 from rfl]
  refine c_bitCount ?_
  rw [fin_low t ht h0]
  simp only [r_X1_longestOf_0, r_X1_longestOf_1, r_X1_longestOf_2, r_X1_longestOf_3, r_X1_longestOf_4, r_X1_longestOf_5, r_X1_longestOf_6, r_X1_longestOf_7, r_X1_longestOf_8, r_X1_longestOf_11, fGet_0, fGet_1, fGet_2, fGet_3, fGet_4, fGet_5, fGet_6, fGet_7, fGet_8, fGet_9, fGet_10, fGet_11, fGet_12, fGet_13, fGet_14, fGet_15, fGet_16, fGet_17, fGet_18, fOk_0, fOk_1, fOk_2, fOk_3, fOk_4, fOk_5, fOk_6, fOk_7, fOk_8, fOk_9, fOk_10, fOk_11, fOk_12, fOk_13, fOk_14, fOk_15, fOk_16, fOk_17, fOk_18, fSet_0, fSet_1, fSet_2, fSet_3, fSet_4, fSet_5, fSet_6, fSet_7, fSet_8, fSet_9, fSet_10, fSet_11, fSet_12, fSet_13, fSet_14, fSet_15, fSet_16, fSet_17, fSet_18, bkIs_e, rIw_o, rL_o, rC_o, rD_o, rQ_o, bkIn_o, bkEl_o, bkUp_o, cats_n, cats_i, cats_r, cats_l, cats_d, kl_i, kl_r, kl_n, kl_l, kl_d, rI_w, ok_b0, ok_b1, ile_0_1, ile_1_0, true_or, or_true, bkK_v, bkK_0, wr_q, Nat.add_eq_left, Nat.left_eq_add, Nat.add_left_cancel_iff, Nat.reduceEqDiff, reduceIte, Nat.reduceEqDiff, nz_1, nz_2, nz_3, nz_4, nz_5, nz_6, nz_7, nz_8, nz_9, nz_10, nz_11, nz_12, true_and, and_true, Nat.reduceAdd, Nat.zero_add, Nat.add_zero, Nat.le_refl, Nat.reduceLeDiff, Nat.zero_le, not_true_eq_false, not_false_eq_true, false_implies, true_implies, implies_true, bkK_x (M := gX1_longestOf) rfl, show mC gX1_longestOf = 0 from rfl, show mS gX1_longestOf = 0 from rfl]
  exact hP
