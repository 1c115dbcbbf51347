/-! 55: every change keeps the ranges -/
theorem va_L {A : PA} (hv : VA A) {L : LA} (h : L.1 ≤ 30 ∧ ∀ k, k < L.1 → 0 ≤ L.2.1 k ∧ L.2.1 k < 3 ∧ 1 ≤ L.2.2.1 k ∧ L.2.2.1 k ≤ 999 ∧ 1 ≤ L.2.2.2 k ∧ L.2.2.2 k ≤ 9999) : VA (A.LTo L) := ⟨hv.1, hv.2.1, hv.2.2.1, hv.2.2.2.1, h, hv.2.2.2.2.2⟩
theorem va_R {A : PA} (hv : VA A) {R : LA} (h : R.1 ≤ 20 ∧ (∀ k, k < R.1 → 0 ≤ R.2.1 k ∧ R.2.1 k < 3 ∧ 0 ≤ R.2.2.1 k ∧ R.2.2.1 k ≤ 9999 ∧ 1 ≤ R.2.2.2 k ∧ R.2.2.2 k ≤ 9999) ∧ ∀ i j, i < j → j < R.1 → ¬ (R.2.1 i = R.2.1 j ∧ R.2.2.1 i = R.2.2.1 j)) : VA (A.RTo R) := ⟨hv.1, hv.2.1, hv.2.2.1, hv.2.2.2.1, hv.2.2.2.2.1, h, hv.2.2.2.2.2.2⟩
theorem bnM_up {A : PA} {b w b' w' : Nat} {x : Int32} (hw : w < 4) (hw' : w' < 4) : bnM (A.bkTo (va_up A.bk (b * 4 + w) x)) b' w' = if b' = b ∧ w' = w then x else bnM A b' w' := by
  show va_up A.bk (b * 4 + w) x (b' * 4 + w') = _
  unfold va_up
  by_cases q : b' = b ∧ w' = w
  · rw [if_pos q, q.1, q.2, if_pos rfl]
  · rw [if_neg q, if_neg (by omega)]; rfl
theorem va_setB {A : PA} (hv : VA A) {b w : Nat} {x : Int32} (hw : w < 4) (h : blOK (nI w) x) : VA (aSetB A b w x) := by
  refine ⟨hv.1, fun b' hb' w' hw' => ?_, hv.2.2.1, hv.2.2.2.1, hv.2.2.2.2.1, hv.2.2.2.2.2⟩
  unfold aSetB
  rw [bnM_up hw hw']
  by_cases q : b' = b ∧ w' = w
  · rw [if_pos q, q.2]; exact h
  · rw [if_neg q]; exact hv.2.1 b' hb' w' hw'
theorem va_add {A : PA} (hv : VA A) {x y u v : Int32} (hn : A.nb < 10) (h0 : blOK 0 x) (h1 : blOK 1 y) (h2 : blOK 2 u) (h3 : blOK 3 v) : VA (putA A x y u v) := by
  refine ⟨hn, fun b' hb' w' hw' => ?_, hv.2.2.1, hv.2.2.2.1, hv.2.2.2.2.1, hv.2.2.2.2.2⟩
  have hb' : b' < A.nb + 1 := hb'
  show blOK (nI w') (va_up (va_up (va_up (va_up A.bk (A.nb * 4 + 0) x) (A.nb * 4 + 1) y) (A.nb * 4 + 2) u) (A.nb * 4 + 3) v (b' * 4 + w'))
  unfold va_up
  by_cases q : b' = A.nb
  · subst q
    have hw' : w' = 0 ∨ w' = 1 ∨ w' = 2 ∨ w' = 3 := by omega
    rcases hw' with rfl | rfl | rfl | rfl
    · rw [if_neg (by omega), if_neg (by omega), if_neg (by omega), if_pos rfl]; exact h0
    · rw [if_neg (by omega), if_neg (by omega), if_pos rfl]; exact h1
    · rw [if_neg (by omega), if_pos rfl]; exact h2
    · rw [if_pos rfl]; exact h3
  · rw [if_neg (by omega), if_neg (by omega), if_neg (by omega), if_neg (by omega)]
    exact hv.2.1 b' (by omega) w' hw'
theorem va_set {A : PA} (hv : VA A) {w : Nat} {x : Int32} (h : seOK (nI w) x) : VA (aSet A w x) := by
  refine ⟨hv.1, hv.2.1, fun w' hw' => ?_, hv.2.2.2.1, hv.2.2.2.2.1, hv.2.2.2.2.2⟩
  show seOK (nI w') (va_up A.se w x w')
  unfold va_up
  by_cases q : w' = w
  · rw [if_pos q, q]; exact h
  · rw [if_neg q]; exact hv.2.2.1 w' hw'
theorem va_SS {A : PA} (hv : VA A) {m : Nat} {l b g : Int32} (h : shOK l b g) : VA (aSS A m l b g) := by
  refine ⟨hv.1, hv.2.1, hv.2.2.1, fun m' hm' => ?_, hv.2.2.2.2.1, hv.2.2.2.2.2⟩
  have e : ∀ w, w < 3 → shM (aSS A m l b g) m' w = if m' = m then (if w = 0 then l else if w = 1 then b else g) else shM A m' w := by
    intro w hw
    show va_up (va_up (va_up A.sh (m * 3) l) (m * 3 + 1) b) (m * 3 + 2) g (m' * 3 + w) = _
    unfold va_up
    by_cases q : m' = m
    · subst q
      rw [if_pos rfl]
      have hw : w = 0 ∨ w = 1 ∨ w = 2 := by omega
      rcases hw with rfl | rfl | rfl
      · rw [if_neg (by omega), if_neg (by omega), if_pos (show m' * 3 + 0 = m' * 3 from rfl)]; rfl
      · rw [if_neg (by omega), if_pos rfl]; rfl
      · rw [if_pos rfl]; rfl
    · rw [if_neg q, if_neg (by omega), if_neg (by omega), if_neg (by omega)]; rfl
  rw [e 0 (by omega), e 1 (by omega), e 2 (by omega)]
  by_cases q : m' = m
  · rw [if_pos q, if_pos q, if_pos q]
    exact ⟨h.1.1, h.1.2, h.2.1.1, h.2.1.2, h.2.2.1, h.2.2.2⟩
  · rw [if_neg q, if_neg q, if_neg q]
    exact hv.2.2.2.1 m' hm'
theorem va_buy {A : PA} (hv : VA A) {m u p : Int32} (hn : A.L.1 < 30) (hm : inN m 3) (h : buOK u p) : VA (aBuy A m u p) := by
  refine ⟨hv.1, hv.2.1, hv.2.2.1, hv.2.2.2.1, ⟨hn, fun k hk => ?_⟩, hv.2.2.2.2.2⟩
  have hk : k < A.L.1 + 1 := hk
  show 0 ≤ va_up A.L.2.1 A.L.1 m k ∧ va_up A.L.2.1 A.L.1 m k < 3 ∧ 1 ≤ va_up A.L.2.2.1 A.L.1 u k ∧ va_up A.L.2.2.1 A.L.1 u k ≤ 999 ∧ 1 ≤ va_up A.L.2.2.2 A.L.1 p k ∧ va_up A.L.2.2.2 A.L.1 p k ≤ 9999
  unfold va_up
  by_cases q : k = A.L.1
  · rw [if_pos q, if_pos q, if_pos q]
    exact ⟨hm.1, hm.2, h.1.1, h.1.2, h.2.1, h.2.2⟩
  · rw [if_neg q, if_neg q, if_neg q]
    exact hv.2.2.2.2.1.2 k (by omega)
theorem psl_spec (fm fd : Nat → Int32) (m y : Int32) : ∀ d k, (pslM fm fd m y k d = k + d ∧ ∀ j, k ≤ j → j < k + d → ¬ (fm j = m ∧ fd j = y)) ∨ (pslM fm fd m y k d < k + d ∧ fm (pslM fm fd m y k d) = m ∧ fd (pslM fm fd m y k d) = y) := by
  intro d
  induction d with
  | zero => intro k; exact Or.inl ⟨rfl, fun j a b => by omega⟩
  | succ d ih =>
    intro k
    rw [pslM]
    by_cases q : fm k = m ∧ fd k = y
    · rw [if_pos q]; exact Or.inr ⟨by omega, q⟩
    · rw [if_neg q]
      rcases ih (k + 1) with ⟨a, b⟩ | ⟨a, b⟩
      · refine Or.inl ⟨by omega, fun j h1 h2 => ?_⟩
        by_cases e : j = k
        · subst e; exact q
        · exact b j (by omega) (by omega)
      · exact Or.inr ⟨by omega, b⟩
theorem va_SP {A : PA} (hv : VA A) {m y p : Int32} (hm : inN m 3) (h : prOK y p) (hn : pslM A.R.2.1 A.R.2.2.1 m y 0 A.R.1 = A.R.1 → A.R.1 < 20) : VA (aSP A m y p) := by
  obtain ⟨r1, r2, r3⟩ := hv.2.2.2.2.2.1
  refine va_R hv ?_
  unfold rSP
  have hs := psl_spec A.R.2.1 A.R.2.2.1 m y A.R.1 0
  rw [Nat.zero_add] at hs
  by_cases q : pslM A.R.2.1 A.R.2.2.1 m y 0 A.R.1 = A.R.1
  · rw [if_pos q]
    have hno : ∀ j, j < A.R.1 → ¬ (A.R.2.1 j = m ∧ A.R.2.2.1 j = y) := by
      rcases hs with ⟨_, b⟩ | ⟨a, _⟩
      · exact fun j hj => b j (by omega) hj
      · omega
    refine ⟨hn q, fun k hk => ?_, fun i j hij hj => ?_⟩
    · have hk : k < A.R.1 + 1 := hk
      dsimp only
      unfold va_up
      by_cases e : k = A.R.1
      · rw [if_pos e, if_pos e, if_pos e]
        exact ⟨hm.1, hm.2, h.1.1, h.1.2, h.2.1, h.2.2⟩
      · rw [if_neg e, if_neg e, if_neg e]
        exact r2 k (by omega)
    · have hj : j < A.R.1 + 1 := hj
      dsimp only
      unfold va_up
      rw [if_neg (show ¬ i = A.R.1 by omega), if_neg (show ¬ i = A.R.1 by omega)]
      by_cases e : j = A.R.1
      · rw [if_pos e, if_pos e]
        exact hno i (by omega)
      · rw [if_neg e, if_neg e]
        exact r3 i j hij (by omega)
  · rw [if_neg q]
    generalize pslM A.R.2.1 A.R.2.2.1 m y 0 A.R.1 = s at *
    refine ⟨r1, fun k hk => ?_, r3⟩
    have := r2 k hk
    refine ⟨this.1, this.2.1, this.2.2.1, this.2.2.2.1, ?_⟩
    dsimp only
    unfold va_up
    by_cases e : k = s
    · rw [if_pos e]; exact h.2
    · rw [if_neg e]; exact this.2.2.2.2
theorem va_DP {A : PA} (hv : VA A) {j : Nat} (hj : j < A.R.1) : VA (A.RTo (rDP A.R j)) := by
  obtain ⟨r1, r2, r3⟩ := hv.2.2.2.2.2.1
  refine va_R hv ⟨?_, fun k hk => ?_, fun i k hik hk => ?_⟩
  · show A.R.1 - 1 ≤ 20
    omega
  · have hk : k < A.R.1 - 1 := hk
    show 0 ≤ va_up A.R.2.1 j _ k ∧ va_up A.R.2.1 j _ k < 3 ∧ 0 ≤ va_up A.R.2.2.1 j _ k ∧ va_up A.R.2.2.1 j _ k ≤ 9999 ∧ 1 ≤ va_up A.R.2.2.2 j _ k ∧ va_up A.R.2.2.2 j _ k ≤ 9999
    unfold va_up
    by_cases e : k = j
    · rw [if_pos e, if_pos e, if_pos e]
      exact r2 _ (by omega)
    · rw [if_neg e, if_neg e, if_neg e]
      exact r2 k (by omega)
  · have hk : k < A.R.1 - 1 := hk
    show ¬ (va_up A.R.2.1 j _ i = va_up A.R.2.1 j _ k ∧ va_up A.R.2.2.1 j _ i = va_up A.R.2.2.1 j _ k)
    unfold va_up
    by_cases e : i = j
    · rw [if_pos e, if_pos e, if_neg (show ¬ k = j by omega), if_neg (show ¬ k = j by omega)]
      exact fun c => r3 k (A.R.1 - 1) (by omega) (by omega) ⟨c.1.symm, c.2.symm⟩
    · rw [if_neg e, if_neg e]
      by_cases e' : k = j
      · rw [if_pos e', if_pos e']
        exact r3 i (A.R.1 - 1) (by omega) (by omega)
      · rw [if_neg e', if_neg e']
        exact r3 i k hik (by omega)
theorem va_pass {A : PA} (hv : VA A) {x : Int32} (h1 : 1 ≤ x ∧ x ≤ 999) (h2 : A.dy + x ≤ 9999) : VA (A.dyTo (A.dy + x)) := by
  refine ⟨hv.1, hv.2.1, hv.2.2.1, hv.2.2.2.1, hv.2.2.2.2.1, hv.2.2.2.2.2.1, ?_, h2⟩
  obtain ⟨d, ed, _, rd⟩ := i_rng (a := 0) (b := 9999) (by omega) (by omega) hv.2.2.2.2.2.2.1 hv.2.2.2.2.2.2.2
  obtain ⟨k, ek, _, rk⟩ := i_rng (a := 1) (b := 999) (by omega) (by omega) h1.1 h1.2
  show 0 ≤ A.dy + x
  rw [ed, ek, mI_add]
  exact Int32.not_lt.mp (mI_neg (by omega))
/-! what is used up -/
theorem cmp_row (fu : Nat → Int32) : ∀ k j, j < kpM fu k → ∃ i, i < k ∧ 0 < fu i ∧ ∀ f, cmpM fu f k j = f i := by
  intro k
  induction k with
  | zero => intro j hj; exact absurd hj (Nat.not_lt_zero _)
  | succ k ih =>
    intro j hj
    rw [kpM] at hj
    by_cases q : 0 < fu k
    · rw [if_pos q] at hj
      by_cases e : j = kpM fu k
      · refine ⟨k, by omega, q, fun f => ?_⟩
        rw [cmpM, if_pos q, va_up, if_pos e]
      · obtain ⟨i, a, b, c⟩ := ih j (by omega)
        refine ⟨i, by omega, b, fun f => ?_⟩
        rw [cmpM, if_pos q, va_up, if_neg e, c f]
    · rw [if_neg q] at hj
      obtain ⟨i, a, b, c⟩ := ih j hj
      refine ⟨i, by omega, b, fun f => ?_⟩
      rw [cmpM, if_neg q, c f]
theorem unit_lt (fm fu : Nat → Int32) (m x : Int32) : ∀ n j, j < n → unitM fm fu m x n j = fu j - tookM fm fu m x j := by
  intro n
  induction n with
  | zero => intro j hj; omega
  | succ n ih =>
    intro j hj
    rw [unitM]
    by_cases q : fm n = m
    · rw [if_pos q, va_up]
      by_cases e : j = n
      · rw [if_pos e, e]
      · rw [if_neg e]; exact ih j (by omega)
    · rw [if_neg q]
      by_cases e : j = n
      · subst e
        rw [unitM_ge fm fu m x j j (Nat.le_refl _), tookM, if_neg q, Int32.sub_zero]
      · exact ih j (by omega)
/-- what is left and what is taken are whole numbers in range -/
theorem left_k {fm fu : Nat → Int32} {m : Int32} {x0 n : Nat} (hx : x0 < 2147483648) (hu : ∀ j, j < n → ∃ u, fu j = nI u ∧ u ≤ 999) : ∀ k, k ≤ n → ∃ l, leftM fm fu m (nI x0) k = nI l ∧ l ≤ x0 := by
  intro k
  induction k with
  | zero => intro _; exact ⟨x0, rfl, Nat.le_refl _⟩
  | succ k ih =>
    intro hk
    obtain ⟨l, e, a⟩ := ih (by omega)
    obtain ⟨u, eu, b⟩ := hu k (by omega)
    rw [leftM, e, eu]
    by_cases q : fm k = m
    · rw [if_pos q]
      by_cases c : nI u < nI l
      · rw [if_pos c]
        have := (mI_lt (by omega) (by omega)).mp c
        exact ⟨l - u, mI_sub (by omega), by omega⟩
      · rw [if_neg c]
        exact ⟨l - l, mI_sub (Nat.le_refl _), by omega⟩
    · rw [if_neg q]
      exact ⟨l, rfl, a⟩
theorem took_k {fm fu : Nat → Int32} {m : Int32} {x0 n : Nat} (hx : x0 < 2147483648) (hu : ∀ j, j < n → ∃ u, fu j = nI u ∧ u ≤ 999) {k : Nat} (hk : k < n) : ∃ u w, fu k = nI u ∧ u ≤ 999 ∧ tookM fm fu m (nI x0) k = nI w ∧ w ≤ u := by
  obtain ⟨l, e, a⟩ := left_k (m := m) (fm := fm) hx hu k (by omega)
  obtain ⟨u, eu, b⟩ := hu k hk
  refine ⟨u, ?_⟩
  rw [tookM, e, eu]
  by_cases q : fm k = m
  · rw [if_pos q]
    by_cases c : nI u < nI l
    · rw [if_pos c]; exact ⟨u, rfl, b, rfl, Nat.le_refl _⟩
    · rw [if_neg c]
      have := mt (mI_lt (by omega) (by omega)).mpr c
      exact ⟨l, rfl, b, rfl, by omega⟩
  · rw [if_neg q]; exact ⟨0, rfl, b, rfl, Nat.zero_le _⟩
theorem va_unit {A : PA} (hv : VA A) : ∀ j, j < A.L.1 → ∃ u, A.L.2.2.1 j = nI u ∧ u ≤ 999 := by
  intro j hj
  have h := hv.2.2.2.2.1.2 j hj
  obtain ⟨k, e, _, b⟩ := i_rng (a := 1) (b := 999) (by omega) (by omega) h.2.2.1 h.2.2.2.1
  exact ⟨k, e, b⟩
theorem va_take {A : PA} (hv : VA A) {m : Int32} {x0 : Nat} (hx : x0 < 2147483648) : VA (A.LTo (takeL A.L m (nI x0))) := by
  refine va_L hv ⟨Nat.le_trans (takeL_le _ _ _) hv.2.2.2.2.1.1, fun k hk => ?_⟩
  obtain ⟨i, a, b, c⟩ := cmp_row (unitM A.L.2.1 A.L.2.2.1 m (nI x0) A.L.1) A.L.1 k hk
  have h := hv.2.2.2.2.1.2 i a
  have e1 : (takeL A.L m (nI x0)).2.1 k = A.L.2.1 i := c _
  have e2 : (takeL A.L m (nI x0)).2.2.1 k = unitM A.L.2.1 A.L.2.2.1 m (nI x0) A.L.1 i := c _
  have e3 : (takeL A.L m (nI x0)).2.2.2 k = A.L.2.2.2 i := c _
  rw [e1, e2, e3]
  obtain ⟨u, w, eu, ru, ew, rw'⟩ := took_k (m := m) (fm := A.L.2.1) hx (va_unit hv) a
  rw [unit_lt _ _ _ _ _ _ a, eu, ew, mI_sub rw'] at b ⊢
  have b := (mI_lt (a := 0) (by omega) (by omega)).mp b
  exact ⟨h.1, h.2.1, (mI_le (a := 1) (by omega) (by omega)).mpr b, (mI_le (b := 999) (by omega) (by omega)).mpr (by omega), h.2.2.2.2.1, h.2.2.2.2.2⟩
theorem va_us {A : PA} (hv : VA A) {f : Nat → Int64} : VA (A.usTo f) := ⟨hv.1, hv.2.1, hv.2.2.1, hv.2.2.2.1, hv.2.2.2.2.1, hv.2.2.2.2.2⟩
/-- the needs of a book do not hang on what was used -/
theorem un_use {A : PA} {b m : Nat} (b' : Nat) (m' : Int32) : unI (use1 A b m) b' m' = unI A b' m' := rfl
theorem un_pos {A : PA} (hv : VA A) {b : Nat} (hb : b < A.nb) (hr : reI A b = 0) {m : Nat} (hm : m < 3) : ∃ k, unI A b (nI m) = nI k ∧ k ≤ 100000 := by
  have h := un_nn hv hb (m := nI m) (inN_k (n := 3) (c := 3) rfl hm (by omega))
  rcases h with e | e
  · exfalso
    unfold reI at hr
    have hm : m = 0 ∨ m = 1 ∨ m = 2 := by omega
    by_cases c : A.se 4 < pBI A b 3
    · rw [if_pos c] at hr; exact absurd hr (by decide)
    rw [if_neg c] at hr
    rcases hm with rfl | rfl | rfl
    · rw [if_pos (Or.inl (show unI A b 0 = -1 from e))] at hr; exact absurd hr (by decide)
    · rw [if_pos (Or.inr (show unI A b 1 = -1 from e))] at hr; exact absurd hr (by decide)
    · obtain ⟨he, wi, th, co, ⟨e0, r0⟩, _, _, e3, r3⟩ := va_bk hv hb
      have e : cuI A b = -1 := e
      rw [cuI, if_neg c] at e
      obtain ⟨l, el, al, cl⟩ := pl_k hv hb 3
      have h3 : l * co ≤ 470 * 50 := Nat.mul_le_mul cl r3.2
      have h4 : (l * co + 99) / 100 ≤ l * co + 99 := Nat.div_le_self _ _
      rw [el, e3, mI_mul, show (99 : Int32) = nI 99 from rfl, mI_add, show (100 : Int32) = nI 100 from rfl, mI_div (by omega) (by omega)] at e
      exact absurd e (mI_nm1 (by omega))
  · exact e
theorem va_use1 {A : PA} (hv : VA A) {b m k : Nat} (hk : unI A b (nI m) = nI k) (hk' : k ≤ 100000) : VA (use1 A b m) := by
  unfold use1
  rw [hk]
  exact va_us (va_take hv (by omega))
theorem va_end {A : PA} (hv : VA A) {b : Nat} {x : Int32} : VA (endU A b x) := ⟨hv.1, hv.2.1, hv.2.2.1, hv.2.2.2.1, hv.2.2.2.2.1, hv.2.2.2.2.2⟩
theorem va_use {A : PA} (hv : VA A) {b : Nat} (hb : b < A.nb) (hr : reI A b = 0) : VA (useA A b) := by
  obtain ⟨k0, e0, a0⟩ := un_pos hv hb hr (m := 0) (by omega)
  obtain ⟨k1, e1, a1⟩ := un_pos hv hb hr (m := 1) (by omega)
  obtain ⟨k2, e2, a2⟩ := un_pos hv hb hr (m := 2) (by omega)
  have h1 := va_use1 hv e0 a0
  have h2 := va_use1 (b := b) (m := 1) h1 (by rw [un_use]; exact e1) a1
  have h3 := va_use1 (b := b) (m := 2) h2 (by rw [un_use, un_use]; exact e2) a2
  unfold useA
  exact va_end h3
/-! the planner's state -/
theorem vs_chg {s : SA} (hv : VS s) {A' : PA} (h : VA A') : VS (s.chg A') := by
  refine ⟨h, hv.2.1, Nat.mod_lt _ (by omega), Nat.min_le_right _ _, fun i hi => ?_, hv.2.2.2.2.2⟩
  show VA (if i = s.H.1 then s.A else s.H.2.2 i)
  split
  · exact hv.1
  · exact hv.2.2.2.2.1 i hi
theorem vs_t {s : SA} (hv : VS s) {T : TA} (h : T.2.2.2.1 ≤ 40) : VS (s.tTo T) := ⟨hv.1, hv.2.1, hv.2.2.1, hv.2.2.2.1, hv.2.2.2.2.1, h⟩
theorem vs_re {s : SA} (hv : VS s) {x : Int32} : VS (s.reTo x) := hv
theorem vs_und {s : SA} (hv : VS s) : VS s.und := ⟨hv.2.2.2.2.1 _ (Nat.mod_lt _ (by omega)), hv.2.1, Nat.mod_lt _ (by omega), Nat.le_trans (Nat.sub_le _ _) hv.2.2.2.1, hv.2.2.2.2.1, hv.2.2.2.2.2⟩
theorem vs_sav {s : SA} (hv : VS s) : VS s.sav := ⟨hv.1, hv.1, hv.2.2.1, hv.2.2.2.1, hv.2.2.2.2.1, hv.2.2.2.2.2⟩
theorem vs_rst {s : SA} (hv : VS s) : VS s.rst := ⟨hv.2.1, hv.2.1, hv.2.2.1, Nat.zero_le _, hv.2.2.2.2.1, hv.2.2.2.2.2⟩
theorem va_ini : VA iniA := by
  refine ⟨Nat.zero_le _, fun b hb => absurd hb (Nat.not_lt_zero _), fun w hw => ?_, fun m hm => ?_, ⟨Nat.zero_le _, fun k hk => absurd hk (Nat.not_lt_zero _)⟩, ⟨Nat.zero_le _, fun k hk => absurd hk (Nat.not_lt_zero _), fun i j _ hj => absurd hj (Nat.not_lt_zero _)⟩, by decide, by decide⟩
  · rw [seOK_iff hw]
    have hw : w = 0 ∨ w = 1 ∨ w = 2 ∨ w = 3 ∨ w = 4 := by omega
    rcases hw with rfl | rfl | rfl | rfl | rfl <;> exact ⟨by decide, by decide⟩
  · have hm : m = 0 ∨ m = 1 := by omega
    rcases hm with rfl | rfl <;> exact ⟨by decide, by decide, by decide, by decide, by decide, by decide⟩
theorem vs_ini : VS iniS := ⟨va_ini, va_ini, by decide, by decide, fun _ _ => va_ini, by decide⟩
