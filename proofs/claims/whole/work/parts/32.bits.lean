/-! 32: bits -/
def bcI (x : Int32) : Int32 :=
  let a := x - ((x.toUInt32 >>> ((1 : Int32).toUInt32 &&& Int32.toUInt32 31)).toInt32 &&& 1431655765)
  let b := (a &&& 858993459) + ((a.toUInt32 >>> ((2 : Int32).toUInt32 &&& Int32.toUInt32 31)).toInt32 &&& 858993459)
  let c := (b + (b.toUInt32 >>> ((4 : Int32).toUInt32 &&& Int32.toUInt32 31)).toInt32) &&& 252645135
  let d := c + (c.toUInt32 >>> ((8 : Int32).toUInt32 &&& Int32.toUInt32 31)).toInt32
  let e := d + (d.toUInt32 >>> ((16 : Int32).toUInt32 &&& Int32.toUInt32 31)).toInt32
  e &&& 63
theorem c_bitCount {G : bkG} {h : bkHS} {x : Int32} {Post : bkPo} (hP : Post (.inl (some (.int (bcI x)))) h none) : CM G gJ6_bitCount_0f7a4 [.int x] h none Post := by
  refine meth (lv := [some (.int x)]) ok_gJ6_bitCount_0f7a4 (by decide) rfl (Nat.le_of_ble_eq_true rfl) rfl ?_
  simp only [r_J6_bitCount_0f7a4_0, r_J6_bitCount_0f7a4_1, r_J6_bitCount_0f7a4_2, r_J6_bitCount_0f7a4_3, r_J6_bitCount_0f7a4_4, r_J6_bitCount_0f7a4_7, r_J6_bitCount_0f7a4_8, r_J6_bitCount_0f7a4_9, r_J6_bitCount_0f7a4_10, r_J6_bitCount_0f7a4_11, r_J6_bitCount_0f7a4_14, r_J6_bitCount_0f7a4_15, r_J6_bitCount_0f7a4_16, r_J6_bitCount_0f7a4_17, r_J6_bitCount_0f7a4_18, r_J6_bitCount_0f7a4_21, r_J6_bitCount_0f7a4_22, r_J6_bitCount_0f7a4_23, r_J6_bitCount_0f7a4_24, r_J6_bitCount_0f7a4_25, r_J6_bitCount_0f7a4_26, r_J6_bitCount_0f7a4_27, r_J6_bitCount_0f7a4_28, r_J6_bitCount_0f7a4_29, r_J6_bitCount_0f7a4_32, r_J6_bitCount_0f7a4_33, r_J6_bitCount_0f7a4_34, r_J6_bitCount_0f7a4_35, r_J6_bitCount_0f7a4_36, r_J6_bitCount_0f7a4_38, r_J6_bitCount_0f7a4_39, r_J6_bitCount_0f7a4_40, r_J6_bitCount_0f7a4_41, r_J6_bitCount_0f7a4_42, r_J6_bitCount_0f7a4_43, r_J6_bitCount_0f7a4_45, r_J6_bitCount_0f7a4_46, r_J6_bitCount_0f7a4_47, r_J6_bitCount_0f7a4_48, r_J6_bitCount_0f7a4_49, r_J6_bitCount_0f7a4_51, r_J6_bitCount_0f7a4_52, fGet_0, fGet_1, fGet_2, fGet_3, fGet_4, fGet_5, fGet_6, fGet_7, fGet_8, fGet_9, fGet_10, fGet_11, fGet_12, fGet_13, fGet_14, fGet_15, fGet_16, fGet_17, fGet_18, fOk_0, fOk_1, fOk_2, fOk_3, fOk_4, fOk_5, fOk_6, fOk_7, fOk_8, fOk_9, fOk_10, fOk_11, fOk_12, fOk_13, fOk_14, fOk_15, fOk_16, fOk_17, fOk_18, fSet_0, fSet_1, fSet_2, fSet_3, fSet_4, fSet_5, fSet_6, fSet_7, fSet_8, fSet_9, fSet_10, fSet_11, fSet_12, fSet_13, fSet_14, fSet_15, fSet_16, fSet_17, fSet_18, bkIs_e, rIw_o, rL_o, rC_o, rD_o, rQ_o, bkIn_o, bkEl_o, bkUp_o, cats_n, cats_i, cats_r, cats_l, cats_d, kl_i, kl_r, kl_n, kl_l, kl_d, rI_w, ok_b0, ok_b1, ile_0_1, ile_1_0, true_or, or_true, bkK_v, bkK_0, wr_q, Nat.add_eq_left, Nat.left_eq_add, Nat.add_left_cancel_iff, Nat.reduceEqDiff, reduceIte, Nat.reduceEqDiff, nz_1, nz_2, nz_3, nz_4, nz_5, nz_6, nz_7, nz_8, nz_9, nz_10, nz_11, nz_12, true_and, and_true, Nat.reduceAdd, Nat.zero_add, Nat.add_zero, Nat.le_refl, Nat.reduceLeDiff, Nat.zero_le, not_true_eq_false, not_false_eq_true, false_implies, true_implies, implies_true, bkK_x (M := gJ6_bitCount_0f7a4) rfl, show mC gJ6_bitCount_0f7a4 = 0 from rfl, show mS gJ6_bitCount_0f7a4 = 0 from rfl]
  exact hP
def pop : Nat → Nat → Nat
  | 0, _ => 0
  | f + 1, t => t % 2 + pop f (t / 2)
def low : Nat → Nat → Nat
  | 0, _ => 0
  | f + 1, t => if t % 2 = 1 then 0 else 1 + low f (t / 2)
theorem fin_bc : ∀ t : Nat, t < 1024 → bcI (nI t) = nI (pop 10 t) := by decide +kernel
theorem fin_low : ∀ t : Nat, t < 1024 → 0 < t → bcI ((nI t &&& -(nI t)) - 1) = nI (low 10 t) := by decide +kernel
theorem fin_and : ∀ t : Nat, t < 1024 → 0 < t → low 10 t < 10 ∧ t.testBit (low 10 t) = true ∧ (t &&& (t - 1)) < t ∧ ∀ k : Nat, k < 10 → (t &&& (t - 1)).testBit k = (t.testBit k && k != low 10 t) ∧ (k < low 10 t → t.testBit k = false) := by decide +kernel
theorem fin_pow : ∀ c : Nat, c < 11 → (1 : Int32) <<< (nI c &&& 31) = nI (2 ^ c) := by decide +kernel
theorem mI_and (a b : Nat) : nI a &&& nI b = nI (a &&& b) := by
  unfold nI
  apply Int32.toBitVec_inj.mp
  simp [BitVec.ofNat_and]
theorem mI_xor (a b : Nat) : nI a ^^^ nI b = nI (a ^^^ b) := by
  unfold nI
  apply Int32.toBitVec_inj.mp
  simp [BitVec.ofNat_xor]
theorem mI_m1and (b : Nat) : (-1 : Int32) &&& nI b = nI b := by
  apply Int32.toBitVec_inj.mp
  simp
/-- the submask with number r -/
def dep : Nat → Nat → Nat → Nat
  | 0, _, _ => 0
  | f + 1, s, r => if s % 2 = 1 then 2 * dep f (s / 2) (r / 2) + r % 2 else 2 * dep f (s / 2) r
theorem and_step (a b : Nat) : a &&& b = 2 * (a / 2 &&& b / 2) + (a % 2) * (b % 2) := by
  have h1 : (a &&& b) / 2 = a / 2 &&& b / 2 := Nat.and_div_two
  have h2 : (a &&& b) % 2 = (a % 2) * (b % 2) := by
    rcases Nat.mod_two_eq_zero_or_one a with ha | ha <;> rcases Nat.mod_two_eq_zero_or_one b with hb | hb
    · have : ¬ ((a &&& b) % 2 = 1) := fun e => by have := (Nat.and_mod_two_eq_one.mp e).1; omega
      rw [ha, hb]; omega
    · have : ¬ ((a &&& b) % 2 = 1) := fun e => by have := (Nat.and_mod_two_eq_one.mp e).1; omega
      rw [ha, hb]; omega
    · have : ¬ ((a &&& b) % 2 = 1) := fun e => by have := (Nat.and_mod_two_eq_one.mp e).2; omega
      rw [ha, hb]; omega
    · rw [Nat.and_mod_two_eq_one.mpr ⟨ha, hb⟩, ha, hb]
  omega
theorem dep_all : ∀ f s, s < 2 ^ f → dep f s (2 ^ pop f s - 1) = s := by
  intro f
  induction f with
  | zero => intro s h; unfold dep; omega
  | succ f ih =>
    intro s h
    have hs : s / 2 < 2 ^ f := by rw [Nat.pow_succ] at h; omega
    have := ih (s / 2) hs
    have hp : 0 < 2 ^ pop f (s / 2) := Nat.pow_pos (by omega)
    unfold dep pop
    by_cases q : s % 2 = 1
    · rw [if_pos q, q, Nat.add_comm 1, Nat.pow_succ, show (2 ^ pop f (s / 2) * 2 - 1) / 2 = 2 ^ pop f (s / 2) - 1 by omega, this]
      omega
    · rw [if_neg q, show s % 2 = 0 by omega, Nat.zero_add, this]
      omega
theorem dep_and : ∀ f s r, dep f s r &&& s = dep f s r := by
  intro f
  induction f with
  | zero => intro s r; unfold dep; simp
  | succ f ih =>
    intro s r
    unfold dep
    by_cases q : s % 2 = 1
    · rw [if_pos q, and_step, q, show (2 * dep f (s / 2) (r / 2) + r % 2) / 2 = dep f (s / 2) (r / 2) by omega, ih]
      omega
    · rw [if_neg q, and_step, show (2 * dep f (s / 2) r) / 2 = dep f (s / 2) r by omega, ih]
      rw [show s % 2 = 0 by omega]
      omega
theorem dep_pred : ∀ f s r, 0 < r → r < 2 ^ pop f s → 0 < dep f s r ∧ (dep f s r - 1) &&& s = dep f s (r - 1) := by
  intro f
  induction f with
  | zero => intro s r h1 h2; unfold pop at h2; omega
  | succ f ih =>
    intro s r h1 h2
    unfold pop at h2
    unfold dep
    by_cases q : s % 2 = 1
    · rw [q, Nat.add_comm, Nat.pow_succ] at h2
      rw [if_pos q, if_pos q]
      by_cases w : r % 2 = 1
      · refine ⟨by omega, ?_⟩
        rw [and_step, q, w, show (2 * dep f (s / 2) (r / 2) + 1 - 1) / 2 = dep f (s / 2) (r / 2) by omega, dep_and, show (r - 1) / 2 = r / 2 by omega]
        omega
      · have := ih (s / 2) (r / 2) (by omega) (by omega)
        refine ⟨by omega, ?_⟩
        rw [and_step, q, show (2 * dep f (s / 2) (r / 2) + r % 2 - 1) / 2 = dep f (s / 2) (r / 2) - 1 by omega, this.2, show (r - 1) / 2 = r / 2 - 1 by omega]
        omega
    · rw [show s % 2 = 0 by omega, Nat.zero_add] at h2
      rw [if_neg q, if_neg q]
      have := ih (s / 2) r h1 h2
      refine ⟨by omega, ?_⟩
      rw [and_step, show (2 * dep f (s / 2) r - 1) / 2 = dep f (s / 2) r - 1 by omega, this.2, show s % 2 = 0 by omega]
      omega
theorem dep_sub : ∀ f s t, s < 2 ^ f → t &&& s = t → ∃ r, r < 2 ^ pop f s ∧ dep f s r = t := by
  intro f
  induction f with
  | zero =>
    intro s t h1 h2
    refine ⟨0, by unfold pop; omega, ?_⟩
    rw [show s = 0 by omega, Nat.and_zero] at h2
    exact h2
  | succ f ih =>
    intro s t h1 h2
    rw [and_step] at h2
    have hs : s / 2 < 2 ^ f := by rw [Nat.pow_succ] at h1; omega
    have ht : t / 2 &&& s / 2 = t / 2 := by
      rcases Nat.mod_two_eq_zero_or_one t with ha | ha <;> rcases Nat.mod_two_eq_zero_or_one s with hb | hb <;> rw [ha, hb] at h2 <;> omega
    obtain ⟨r, hr, hd⟩ := ih (s / 2) (t / 2) hs ht
    unfold pop dep
    by_cases q : s % 2 = 1
    · refine ⟨2 * r + t % 2, ?_, ?_⟩
      · rw [q, Nat.add_comm 1, Nat.pow_succ]; omega
      · rw [if_pos q, show (2 * r + t % 2) / 2 = r by omega, hd]; omega
    · refine ⟨r, ?_, ?_⟩
      · rw [show s % 2 = 0 by omega, Nat.zero_add]; exact hr
      · rw [if_neg q, hd]
        rw [show s % 2 = 0 by omega, ht] at h2
        omega
/-- the greatest submask that is smaller -/
theorem sub_pred : ∀ f p s t, s < 2 ^ f → 0 < p → p &&& s = p → t &&& s = t → t < p → t ≤ (p - 1) &&& s := by
  intro f
  induction f with
  | zero =>
    intro p s t h1 h2 h3 h4 h5
    rw [show s = 0 by omega, Nat.and_zero] at h3
    omega
  | succ f ih =>
    intro p s t h1 h2 h3 h4 h5
    rw [and_step] at h3 h4 ⊢
    have hs : s / 2 < 2 ^ f := by rw [Nat.pow_succ] at h1; omega
    have hp : p / 2 &&& s / 2 = p / 2 := by
      rcases Nat.mod_two_eq_zero_or_one p with ha | ha <;> rcases Nat.mod_two_eq_zero_or_one s with hb | hb <;> rw [ha, hb] at h3 <;> omega
    have ht : t / 2 &&& s / 2 = t / 2 := by
      rcases Nat.mod_two_eq_zero_or_one t with ha | ha <;> rcases Nat.mod_two_eq_zero_or_one s with hb | hb <;> rw [ha, hb] at h4 <;> omega
    by_cases w : p % 2 = 1
    · rw [show (p - 1) / 2 = p / 2 by omega, hp]
      omega
    · have := ih (p / 2) (s / 2) (t / 2) hs (by omega) hp ht (by omega)
      rw [show (p - 1) / 2 = p / 2 - 1 by omega, show (p - 1) % 2 = 1 by omega]
      have h6 : t % 2 ≤ s % 2 := by
        rcases Nat.mod_two_eq_zero_or_one t with ha | ha <;> rcases Nat.mod_two_eq_zero_or_one s with hb | hb
        · omega
        · omega
        · rw [ha, hb, ht] at h4; omega
        · omega
      omega
