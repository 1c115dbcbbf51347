/-! 47: doubles of whole numbers; ranges -/
theorem l_mul {a b : Int64} (h1 : -9223372036854775808 ≤ a.toInt * b.toInt) (h2 : a.toInt * b.toInt < 9223372036854775808) : (a * b).toInt = a.toInt * b.toInt := by
  rw [Int64.toInt_mul]
  exact Int.bmod_eq_of_le (by omega) (by omega)
/-- a whole number of some thousands -/
def smN (x : Int32) (k : Nat) : Prop := x = nI k ∧ 0 < k ∧ k ≤ 5000
theorem sm_int {x : Int32} {k : Nat} (h : smN x k) : x.toInt64.toInt = k := by
  rw [Int32.toInt_toInt64, h.1, mI_toInt (by have := h.2.2; omega)]
theorem sm2 {x y : Int32} {a b : Nat} (hx : smN x a) (hy : smN y b) : (x.toInt64 * y.toInt64).toInt = ((a * b : Nat) : Int) ∧ 0 < a * b ∧ a * b ≤ 25000000 := by
  have h1 : a * b ≤ 5000 * 5000 := Nat.mul_le_mul hx.2.2 hy.2.2
  have h2 : 0 < a * b := Nat.mul_pos hx.2.1 hy.2.1
  have h3 : x.toInt64.toInt * y.toInt64.toInt = ((a * b : Nat) : Int) := by rw [sm_int hx, sm_int hy, Int.natCast_mul]
  refine ⟨?_, h2, by omega⟩
  rw [l_mul (by rw [h3]; omega) (by rw [h3]; omega), h3]
theorem sm3 {x y z : Int32} {a b c : Nat} (hx : smN x a) (hy : smN y b) (hz : smN z c) : (x.toInt64 * y.toInt64 * z.toInt64).toInt = ((a * b * c : Nat) : Int) ∧ 0 < a * b * c ∧ a * b * c ≤ 125000000000 := by
  have h0 := sm2 hx hy
  have h1 : a * b * c ≤ 25000000 * 5000 := Nat.mul_le_mul h0.2.2 hz.2.2
  have h2 : 0 < a * b * c := Nat.mul_pos h0.2.1 hz.2.1
  have h3 : (x.toInt64 * y.toInt64).toInt * z.toInt64.toInt = ((a * b * c : Nat) : Int) := by rw [h0.1, sm_int hz, ← Int.natCast_mul]
  refine ⟨?_, h2, by omega⟩
  rw [l_mul (by rw [h3]; omega) (by rw [h3]; omega), h3]
theorem n64_ne {a : Int64} {k : Nat} (h : a.toInt = k) (hk : 0 < k) : a ≠ 0 := by
  intro e
  rw [e] at h
  have : (0 : Int64).toInt = 0 := rfl
  omega
theorem sm3_ne {x y z : Int32} {a b c : Nat} (hx : smN x a) (hy : smN y b) (hz : smN z c) : x.toInt64 * y.toInt64 * z.toInt64 ≠ 0 := n64_ne (sm3 hx hy hz).1 (sm3 hx hy hz).2.1
theorem f_mul2 {x y : Int32} {a b : Nat} (hx : smN x a) (hy : smN y b) : FP.dmul (FP.i2d x) (FP.i2d y) = FP.l2d (x.toInt64 * y.toInt64) := by
  have h := sm2 hx hy
  rw [f_i2d, f_i2d]
  have ha := hx.2
  have hb := hy.2
  have e : x.toInt64.toInt * y.toInt64.toInt = ((a * b : Nat) : Int) := by rw [sm_int hx, sm_int hy, Int.natCast_mul]
  exact f_mulL (by rw [sm_int hx]; omega) (by rw [sm_int hy]; omega) (by rw [sm_int hx]; omega) (by rw [sm_int hy]; omega) (by rw [e]; omega) (by rw [e]; omega)
theorem f_mul3 {x y z : Int32} {a b c : Nat} (hx : smN x a) (hy : smN y b) (hz : smN z c) : FP.dmul (FP.dmul (FP.i2d x) (FP.i2d y)) (FP.i2d z) = FP.l2d (x.toInt64 * y.toInt64 * z.toInt64) := by
  have h := sm2 hx hy
  have h3 := sm3 hx hy hz
  rw [f_mul2 hx hy, f_i2d]
  have hc := hz.2
  have e : (x.toInt64 * y.toInt64).toInt * z.toInt64.toInt = ((a * b * c : Nat) : Int) := by rw [h.1, sm_int hz, ← Int.natCast_mul]
  exact f_mulL (by rw [h.1]; omega) (by rw [sm_int hz]; omega) (by rw [h.1]; omega) (by rw [sm_int hz]; omega) (by rw [e]; omega) (by rw [e]; omega)
/-! ranges -/
theorem i_rng {x : Int32} {a b : Nat} (ha : a < 2147483648) (hb : b < 2147483648) (h1 : nI a ≤ x) (h2 : x ≤ nI b) : ∃ k, x = nI k ∧ a ≤ k ∧ k ≤ b := by
  have h0 : (0 : Int32) ≤ x := i_le_tr (show (0 : Int32) ≤ nI a from (mI_le (a := 0) (by omega) ha).mpr (by omega)) h1
  obtain ⟨k, hk, rfl⟩ := nat_of h0
  exact ⟨k, rfl, (mI_le ha hk).mp h1, (mI_le hk hb).mp h2⟩
theorem va_bk {A : PA} (hv : VA A) {b : Nat} (hb : b < A.nb) : ∃ he wi th co : Nat, (bnM A b 0 = nI he ∧ 80 ≤ he ∧ he ≤ 400) ∧ (bnM A b 1 = nI wi ∧ 60 ≤ wi ∧ wi ≤ 300) ∧ (bnM A b 2 = nI th ∧ 5 ≤ th ∧ th ≤ 80) ∧ bnM A b 3 = nI co ∧ 1 ≤ co ∧ co ≤ 50 := by
  have h := hv.2.1 b hb
  have g0 : ∃ k, bnM A b 0 = nI k ∧ 80 ≤ k ∧ k ≤ 400 := by
    rcases h 0 (by omega) with e | e | e | e
    · exact i_rng (a := 80) (b := 400) (by omega) (by omega) e.2.1 e.2.2
    · exact absurd e.1 (by decide)
    · exact absurd e.1 (by decide)
    · exact absurd e.1 (by decide)
  have g1 : ∃ k, bnM A b 1 = nI k ∧ 60 ≤ k ∧ k ≤ 300 := by
    rcases h 1 (by omega) with e | e | e | e
    · exact absurd e.1 (by decide)
    · exact i_rng (a := 60) (b := 300) (by omega) (by omega) e.2.1 e.2.2
    · exact absurd e.1 (by decide)
    · exact absurd e.1 (by decide)
  have g2 : ∃ k, bnM A b 2 = nI k ∧ 5 ≤ k ∧ k ≤ 80 := by
    rcases h 2 (by omega) with e | e | e | e
    · exact absurd e.1 (by decide)
    · exact absurd e.1 (by decide)
    · exact i_rng (a := 5) (b := 80) (by omega) (by omega) e.2.1 e.2.2
    · exact absurd e.1 (by decide)
  have g3 : ∃ k, bnM A b 3 = nI k ∧ 1 ≤ k ∧ k ≤ 50 := by
    rcases h 3 (by omega) with e | e | e | e
    · exact absurd e.1 (by decide)
    · exact absurd e.1 (by decide)
    · exact absurd e.1 (by decide)
    · exact i_rng (a := 1) (b := 50) (by omega) (by omega) e.2.1 e.2.2
  obtain ⟨k0, h0⟩ := g0
  obtain ⟨k1, h1⟩ := g1
  obtain ⟨k2, h2⟩ := g2
  obtain ⟨k3, h3⟩ := g3
  exact ⟨k0, k1, k2, k3, h0, h1, h2, h3⟩
theorem va_se {A : PA} (hv : VA A) : ∃ sq jo tu bt ro : Nat, (A.se 0 = nI sq ∧ sq ≤ 6) ∧ (A.se 1 = nI jo ∧ 4 ≤ jo ∧ jo ≤ 12) ∧ (A.se 2 = nI tu ∧ 8 ≤ tu ∧ tu ≤ 25) ∧ (A.se 3 = nI bt ∧ 1 ≤ bt ∧ bt ≤ 4) ∧ A.se 4 = nI ro ∧ 300 ≤ ro ∧ ro ≤ 1500 := by
  have h := hv.2.2.1
  have g : ∀ k, k < 5 → vt 0 4 8 1 300 k ≤ A.se k ∧ A.se k ≤ vt 6 12 25 4 1500 k := fun k hk => (seOK_iff hk).mp (h k hk)
  obtain ⟨k0, a0, b0, c0⟩ := i_rng (a := 0) (b := 6) (by omega) (by omega) (g 0 (by omega)).1 (g 0 (by omega)).2
  obtain ⟨k1, a1⟩ := i_rng (a := 4) (b := 12) (by omega) (by omega) (g 1 (by omega)).1 (g 1 (by omega)).2
  obtain ⟨k2, a2⟩ := i_rng (a := 8) (b := 25) (by omega) (by omega) (g 2 (by omega)).1 (g 2 (by omega)).2
  obtain ⟨k3, a3⟩ := i_rng (a := 1) (b := 4) (by omega) (by omega) (g 3 (by omega)).1 (g 3 (by omega)).2
  obtain ⟨k4, a4⟩ := i_rng (a := 300) (b := 1500) (by omega) (by omega) (g 4 (by omega)).1 (g 4 (by omega)).2
  exact ⟨k0, k1, k2, k3, k4, ⟨a0, c0⟩, a1, a2, a3, a4⟩
theorem mI_two (a : Nat) : 2 * nI a = nI (2 * a) := mI_mul 2 a
theorem mI_sub {a b : Nat} (h : b ≤ a) : nI a - nI b = nI (a - b) := by
  obtain ⟨c, rfl⟩ : ∃ c, a = c + b := ⟨a - b, by omega⟩
  rw [← mI_add, Nat.add_sub_cancel]
  grind
theorem pl_k {A : PA} (hv : VA A) {b : Nat} (hb : b < A.nb) (p : Int32) : ∃ k, pLI A b p = nI k ∧ 80 ≤ k ∧ k ≤ 470 := by
  obtain ⟨he, wi, th, co, ⟨e0, r0⟩, ⟨e1, r1⟩, ⟨e2, r2⟩, e3, r3⟩ := va_bk hv hb
  obtain ⟨sq, jo, tu, bt, ro, ⟨f0, q0⟩, ⟨f1, q1⟩, ⟨f2, q2⟩, ⟨f3, q3⟩, f4, q4⟩ := va_se hv
  unfold pLI
  rw [e0, f0, f2, mI_two, mI_two, mI_add, mI_add]
  split
  · exact ⟨_, rfl, by omega, by omega⟩
  · split
    · exact ⟨_, rfl, by omega, by omega⟩
    · exact ⟨_, rfl, by omega, by omega⟩
theorem pb_k {A : PA} (hv : VA A) {b : Nat} (hb : b < A.nb) (p : Int32) : ∃ k, pBI A b p = nI k ∧ 7 ≤ k ∧ k ≤ 800 := by
  obtain ⟨he, wi, th, co, ⟨e0, r0⟩, ⟨e1, r1⟩, ⟨e2, r2⟩, e3, r3⟩ := va_bk hv hb
  obtain ⟨sq, jo, tu, bt, ro, ⟨f0, q0⟩, ⟨f1, q1⟩, ⟨f2, q2⟩, ⟨f3, q3⟩, f4, q4⟩ := va_se hv
  unfold pBI
  rw [e1, e2, f0, f1, f2, f3, mI_add, mI_sub (show jo ≤ wi + sq by omega), mI_two, mI_two, mI_two, mI_two, mI_two, mI_add, mI_add, mI_add, mI_add]
  split
  · exact ⟨_, rfl, by omega, by omega⟩
  · split
    · exact ⟨_, rfl, by omega, by omega⟩
    · split
      · exact ⟨_, rfl, by omega, by omega⟩
      · exact ⟨_, rfl, by omega, by omega⟩
theorem sh_k {A : PA} (hv : VA A) {m : Nat} (hm : m < 2) : ∃ l b g : Nat, (shM A m 0 = nI l ∧ 100 ≤ l ∧ l ≤ 1200) ∧ (shM A m 1 = nI b ∧ 100 ≤ b ∧ b ≤ 1200) ∧ shM A m 2 = nI g ∧ g ≤ 2 := by
  have h := hv.2.2.2.1 m hm
  obtain ⟨k0, a0⟩ := i_rng (a := 100) (b := 1200) (by omega) (by omega) h.1 h.2.1
  obtain ⟨k1, a1⟩ := i_rng (a := 100) (b := 1200) (by omega) (by omega) h.2.2.1 h.2.2.2.1
  obtain ⟨k2, a2, _, b2⟩ := i_rng (a := 0) (b := 2) (by omega) (by omega) h.2.2.2.2.1 h.2.2.2.2.2
  exact ⟨k0, k1, k2, a0, a1, a2, b2⟩
theorem mI_div {a b : Nat} (ha : a < 2147483648) (hb : b < 2147483648) : nI a / nI b = nI (a / b) := by
  apply Int32.toInt_inj.mp
  have h3 : a / b ≤ a := Nat.div_le_self a b
  rw [Int32.toInt_div, mI_toInt ha, mI_toInt hb, mI_toInt (by omega)]
  rw [show (a : Int).tdiv (b : Int) = ((a / b : Nat) : Int) from rfl]
  generalize a / b = q at *
  exact Int.bmod_eq_of_le (by omega) (by omega)
