/-! 16: numbers; what looks at entries answer; the heap's reads behind writes -/
theorem mI_toInt {a : Nat} (ha : a < 2147483648) : (nI a).toInt = a := by
  unfold nI
  rw [Int32.toInt_ofNat_of_lt (by omega)]
theorem mI_nat {a : Nat} (ha : a < 2147483648) : (nI a).toNatClampNeg = a := by
  show (nI a).toInt.toNat = a
  rw [mI_toInt ha]
  omega
theorem mI_lt {a b : Nat} (ha : a < 2147483648) (hb : b < 2147483648) : nI a < nI b ↔ a < b := by
  rw [Int32.lt_iff_toInt_lt, mI_toInt ha, mI_toInt hb]
  omega
theorem mI_le {a b : Nat} (ha : a < 2147483648) (hb : b < 2147483648) : nI a ≤ nI b ↔ a ≤ b := by
  rw [Int32.le_iff_toInt_le, mI_toInt ha, mI_toInt hb]
  omega
theorem mI_inj {a b : Nat} (ha : a < 2147483648) (hb : b < 2147483648) : nI a = nI b ↔ a = b := by
  constructor
  · intro h
    have := congrArg Int32.toInt h
    rw [mI_toInt ha, mI_toInt hb] at this
    omega
  · intro h; rw [h]
theorem mI_add (a b : Nat) : nI a + nI b = nI (a + b) := by unfold nI; rw [Int32.ofNat_add]
theorem mI_mul (a b : Nat) : nI a * nI b = nI (a * b) := by unfold nI; rw [Int32.ofNat_mul]
theorem mI_succ (a : Nat) : nI a + 1 = nI (a + 1) := mI_add a 1
theorem mI_neg {a : Nat} (ha : a < 2147483648) : ¬ nI a < 0 := by
  rw [show (0 : Int32) = nI 0 from rfl, mI_lt ha (by omega)]
  omega
theorem vp_nI {k n : Nat} (h : k < n) (hn : n ≤ 2147483648) : vp_in (nI k) n := by
  unfold vp_in
  rw [mI_nat (by omega)]
  intro q
  rcases q with q | q
  · exact mI_neg (by omega) q
  · omega
theorem vp_iff {x : Int32} {n : Nat} (hn : n < 2147483648) : vp_in x n ↔ 0 ≤ x ∧ x < nI n := by
  unfold vp_in
  rw [Int32.le_iff_toInt_le, Int32.lt_iff_toInt_lt, Int32.lt_iff_toInt_lt, mI_toInt hn]
  show ¬ (x.toInt < 0 ∨ n ≤ x.toInt.toNat) ↔ (0 : Int) ≤ x.toInt ∧ x.toInt < n
  omega
/-- an index that is no less than 0 is a natural number -/
theorem mI_of {x : Int32} (h : 0 ≤ x) : nI x.toNatClampNeg = x := by
  apply Int32.toInt_inj.mp
  have h1 : (0 : Int) ≤ x.toInt := by simpa using Int32.le_iff_toInt_le.mp h
  have h2 : x.toInt < 2147483648 := Int32.toInt_lt x
  have h3 : x.toNatClampNeg = x.toInt.toNat := rfl
  rw [mI_toInt (by omega)]
  omega
theorem nat_of {x : Int32} (h : 0 ≤ x) : ∃ k : Nat, k < 2147483648 ∧ x = nI k := ⟨x.toNatClampNeg, by
  have h2 : x.toInt < 2147483648 := Int32.toInt_lt x
  have h3 : x.toNatClampNeg = x.toInt.toNat := rfl
  omega, (mI_of h).symm⟩
theorem nat_lt {x : Int32} {n : Nat} (hn : n < 2147483648) (h : 0 ≤ x) (h2 : x < nI n) : ∃ k : Nat, k < n ∧ x = nI k := by
  obtain ⟨k, hk, rfl⟩ := nat_of h
  exact ⟨k, (mI_lt hk hn).mp h2, rfl⟩
-- entries
theorem fGet_0 (c : Nat) (v0 : Value) (r : List Value) : fGet (some (.inl (c, v0 :: r))) 0 = v0 := rfl
theorem fOk_0 (c : Nat) (v0 : Value) (r : List Value) : (fOk (some (.inl (c, v0 :: r))) c 0 = true) = True := by simp [fOk]
theorem fSet_0 (c : Nat) (v0 v : Value) (r : List Value) : fSet (some (.inl (c, v0 :: r))) 0 v = .inl (c, v :: r) := rfl
theorem fGet_1 (c : Nat) (v0 v1 : Value) (r : List Value) : fGet (some (.inl (c, v0 :: v1 :: r))) 1 = v1 := rfl
theorem fOk_1 (c : Nat) (v0 v1 : Value) (r : List Value) : (fOk (some (.inl (c, v0 :: v1 :: r))) c 1 = true) = True := by simp [fOk]
theorem fSet_1 (c : Nat) (v0 v1 v : Value) (r : List Value) : fSet (some (.inl (c, v0 :: v1 :: r))) 1 v = .inl (c, v0 :: v :: r) := rfl
theorem fGet_2 (c : Nat) (v0 v1 v2 : Value) (r : List Value) : fGet (some (.inl (c, v0 :: v1 :: v2 :: r))) 2 = v2 := rfl
theorem fOk_2 (c : Nat) (v0 v1 v2 : Value) (r : List Value) : (fOk (some (.inl (c, v0 :: v1 :: v2 :: r))) c 2 = true) = True := by simp [fOk]
theorem fSet_2 (c : Nat) (v0 v1 v2 v : Value) (r : List Value) : fSet (some (.inl (c, v0 :: v1 :: v2 :: r))) 2 v = .inl (c, v0 :: v1 :: v :: r) := rfl
theorem fGet_3 (c : Nat) (v0 v1 v2 v3 : Value) (r : List Value) : fGet (some (.inl (c, v0 :: v1 :: v2 :: v3 :: r))) 3 = v3 := rfl
theorem fOk_3 (c : Nat) (v0 v1 v2 v3 : Value) (r : List Value) : (fOk (some (.inl (c, v0 :: v1 :: v2 :: v3 :: r))) c 3 = true) = True := by simp [fOk]
theorem fSet_3 (c : Nat) (v0 v1 v2 v3 v : Value) (r : List Value) : fSet (some (.inl (c, v0 :: v1 :: v2 :: v3 :: r))) 3 v = .inl (c, v0 :: v1 :: v2 :: v :: r) := rfl
theorem fGet_4 (c : Nat) (v0 v1 v2 v3 v4 : Value) (r : List Value) : fGet (some (.inl (c, v0 :: v1 :: v2 :: v3 :: v4 :: r))) 4 = v4 := rfl
theorem fOk_4 (c : Nat) (v0 v1 v2 v3 v4 : Value) (r : List Value) : (fOk (some (.inl (c, v0 :: v1 :: v2 :: v3 :: v4 :: r))) c 4 = true) = True := by simp [fOk]
theorem fSet_4 (c : Nat) (v0 v1 v2 v3 v4 v : Value) (r : List Value) : fSet (some (.inl (c, v0 :: v1 :: v2 :: v3 :: v4 :: r))) 4 v = .inl (c, v0 :: v1 :: v2 :: v3 :: v :: r) := rfl
theorem fGet_5 (c : Nat) (v0 v1 v2 v3 v4 v5 : Value) (r : List Value) : fGet (some (.inl (c, v0 :: v1 :: v2 :: v3 :: v4 :: v5 :: r))) 5 = v5 := rfl
theorem fOk_5 (c : Nat) (v0 v1 v2 v3 v4 v5 : Value) (r : List Value) : (fOk (some (.inl (c, v0 :: v1 :: v2 :: v3 :: v4 :: v5 :: r))) c 5 = true) = True := by simp [fOk]
theorem fSet_5 (c : Nat) (v0 v1 v2 v3 v4 v5 v : Value) (r : List Value) : fSet (some (.inl (c, v0 :: v1 :: v2 :: v3 :: v4 :: v5 :: r))) 5 v = .inl (c, v0 :: v1 :: v2 :: v3 :: v4 :: v :: r) := rfl
theorem fGet_6 (c : Nat) (v0 v1 v2 v3 v4 v5 v6 : Value) (r : List Value) : fGet (some (.inl (c, v0 :: v1 :: v2 :: v3 :: v4 :: v5 :: v6 :: r))) 6 = v6 := rfl
theorem fOk_6 (c : Nat) (v0 v1 v2 v3 v4 v5 v6 : Value) (r : List Value) : (fOk (some (.inl (c, v0 :: v1 :: v2 :: v3 :: v4 :: v5 :: v6 :: r))) c 6 = true) = True := by simp [fOk]
theorem fSet_6 (c : Nat) (v0 v1 v2 v3 v4 v5 v6 v : Value) (r : List Value) : fSet (some (.inl (c, v0 :: v1 :: v2 :: v3 :: v4 :: v5 :: v6 :: r))) 6 v = .inl (c, v0 :: v1 :: v2 :: v3 :: v4 :: v5 :: v :: r) := rfl
theorem fGet_7 (c : Nat) (v0 v1 v2 v3 v4 v5 v6 v7 : Value) (r : List Value) : fGet (some (.inl (c, v0 :: v1 :: v2 :: v3 :: v4 :: v5 :: v6 :: v7 :: r))) 7 = v7 := rfl
theorem fOk_7 (c : Nat) (v0 v1 v2 v3 v4 v5 v6 v7 : Value) (r : List Value) : (fOk (some (.inl (c, v0 :: v1 :: v2 :: v3 :: v4 :: v5 :: v6 :: v7 :: r))) c 7 = true) = True := by simp [fOk]
theorem fSet_7 (c : Nat) (v0 v1 v2 v3 v4 v5 v6 v7 v : Value) (r : List Value) : fSet (some (.inl (c, v0 :: v1 :: v2 :: v3 :: v4 :: v5 :: v6 :: v7 :: r))) 7 v = .inl (c, v0 :: v1 :: v2 :: v3 :: v4 :: v5 :: v6 :: v :: r) := rfl
theorem fGet_8 (c : Nat) (v0 v1 v2 v3 v4 v5 v6 v7 v8 : Value) (r : List Value) : fGet (some (.inl (c, v0 :: v1 :: v2 :: v3 :: v4 :: v5 :: v6 :: v7 :: v8 :: r))) 8 = v8 := rfl
theorem fOk_8 (c : Nat) (v0 v1 v2 v3 v4 v5 v6 v7 v8 : Value) (r : List Value) : (fOk (some (.inl (c, v0 :: v1 :: v2 :: v3 :: v4 :: v5 :: v6 :: v7 :: v8 :: r))) c 8 = true) = True := by simp [fOk]
theorem fSet_8 (c : Nat) (v0 v1 v2 v3 v4 v5 v6 v7 v8 v : Value) (r : List Value) : fSet (some (.inl (c, v0 :: v1 :: v2 :: v3 :: v4 :: v5 :: v6 :: v7 :: v8 :: r))) 8 v = .inl (c, v0 :: v1 :: v2 :: v3 :: v4 :: v5 :: v6 :: v7 :: v :: r) := rfl
theorem fGet_9 (c : Nat) (v0 v1 v2 v3 v4 v5 v6 v7 v8 v9 : Value) (r : List Value) : fGet (some (.inl (c, v0 :: v1 :: v2 :: v3 :: v4 :: v5 :: v6 :: v7 :: v8 :: v9 :: r))) 9 = v9 := rfl
theorem fOk_9 (c : Nat) (v0 v1 v2 v3 v4 v5 v6 v7 v8 v9 : Value) (r : List Value) : (fOk (some (.inl (c, v0 :: v1 :: v2 :: v3 :: v4 :: v5 :: v6 :: v7 :: v8 :: v9 :: r))) c 9 = true) = True := by simp [fOk]
theorem fSet_9 (c : Nat) (v0 v1 v2 v3 v4 v5 v6 v7 v8 v9 v : Value) (r : List Value) : fSet (some (.inl (c, v0 :: v1 :: v2 :: v3 :: v4 :: v5 :: v6 :: v7 :: v8 :: v9 :: r))) 9 v = .inl (c, v0 :: v1 :: v2 :: v3 :: v4 :: v5 :: v6 :: v7 :: v8 :: v :: r) := rfl
theorem fGet_10 (c : Nat) (v0 v1 v2 v3 v4 v5 v6 v7 v8 v9 v10 : Value) (r : List Value) : fGet (some (.inl (c, v0 :: v1 :: v2 :: v3 :: v4 :: v5 :: v6 :: v7 :: v8 :: v9 :: v10 :: r))) 10 = v10 := rfl
theorem fOk_10 (c : Nat) (v0 v1 v2 v3 v4 v5 v6 v7 v8 v9 v10 : Value) (r : List Value) : (fOk (some (.inl (c, v0 :: v1 :: v2 :: v3 :: v4 :: v5 :: v6 :: v7 :: v8 :: v9 :: v10 :: r))) c 10 = true) = True := by simp [fOk]
theorem fSet_10 (c : Nat) (v0 v1 v2 v3 v4 v5 v6 v7 v8 v9 v10 v : Value) (r : List Value) : fSet (some (.inl (c, v0 :: v1 :: v2 :: v3 :: v4 :: v5 :: v6 :: v7 :: v8 :: v9 :: v10 :: r))) 10 v = .inl (c, v0 :: v1 :: v2 :: v3 :: v4 :: v5 :: v6 :: v7 :: v8 :: v9 :: v :: r) := rfl
theorem fGet_11 (c : Nat) (v0 v1 v2 v3 v4 v5 v6 v7 v8 v9 v10 v11 : Value) (r : List Value) : fGet (some (.inl (c, v0 :: v1 :: v2 :: v3 :: v4 :: v5 :: v6 :: v7 :: v8 :: v9 :: v10 :: v11 :: r))) 11 = v11 := rfl
theorem fOk_11 (c : Nat) (v0 v1 v2 v3 v4 v5 v6 v7 v8 v9 v10 v11 : Value) (r : List Value) : (fOk (some (.inl (c, v0 :: v1 :: v2 :: v3 :: v4 :: v5 :: v6 :: v7 :: v8 :: v9 :: v10 :: v11 :: r))) c 11 = true) = True := by simp [fOk]
theorem fSet_11 (c : Nat) (v0 v1 v2 v3 v4 v5 v6 v7 v8 v9 v10 v11 v : Value) (r : List Value) : fSet (some (.inl (c, v0 :: v1 :: v2 :: v3 :: v4 :: v5 :: v6 :: v7 :: v8 :: v9 :: v10 :: v11 :: r))) 11 v = .inl (c, v0 :: v1 :: v2 :: v3 :: v4 :: v5 :: v6 :: v7 :: v8 :: v9 :: v10 :: v :: r) := rfl
theorem fGet_12 (c : Nat) (v0 v1 v2 v3 v4 v5 v6 v7 v8 v9 v10 v11 v12 : Value) (r : List Value) : fGet (some (.inl (c, v0 :: v1 :: v2 :: v3 :: v4 :: v5 :: v6 :: v7 :: v8 :: v9 :: v10 :: v11 :: v12 :: r))) 12 = v12 := rfl
theorem fOk_12 (c : Nat) (v0 v1 v2 v3 v4 v5 v6 v7 v8 v9 v10 v11 v12 : Value) (r : List Value) : (fOk (some (.inl (c, v0 :: v1 :: v2 :: v3 :: v4 :: v5 :: v6 :: v7 :: v8 :: v9 :: v10 :: v11 :: v12 :: r))) c 12 = true) = True := by simp [fOk]
theorem fSet_12 (c : Nat) (v0 v1 v2 v3 v4 v5 v6 v7 v8 v9 v10 v11 v12 v : Value) (r : List Value) : fSet (some (.inl (c, v0 :: v1 :: v2 :: v3 :: v4 :: v5 :: v6 :: v7 :: v8 :: v9 :: v10 :: v11 :: v12 :: r))) 12 v = .inl (c, v0 :: v1 :: v2 :: v3 :: v4 :: v5 :: v6 :: v7 :: v8 :: v9 :: v10 :: v11 :: v :: r) := rfl
theorem fGet_13 (c : Nat) (v0 v1 v2 v3 v4 v5 v6 v7 v8 v9 v10 v11 v12 v13 : Value) (r : List Value) : fGet (some (.inl (c, v0 :: v1 :: v2 :: v3 :: v4 :: v5 :: v6 :: v7 :: v8 :: v9 :: v10 :: v11 :: v12 :: v13 :: r))) 13 = v13 := rfl
theorem fOk_13 (c : Nat) (v0 v1 v2 v3 v4 v5 v6 v7 v8 v9 v10 v11 v12 v13 : Value) (r : List Value) : (fOk (some (.inl (c, v0 :: v1 :: v2 :: v3 :: v4 :: v5 :: v6 :: v7 :: v8 :: v9 :: v10 :: v11 :: v12 :: v13 :: r))) c 13 = true) = True := by simp [fOk]
theorem fSet_13 (c : Nat) (v0 v1 v2 v3 v4 v5 v6 v7 v8 v9 v10 v11 v12 v13 v : Value) (r : List Value) : fSet (some (.inl (c, v0 :: v1 :: v2 :: v3 :: v4 :: v5 :: v6 :: v7 :: v8 :: v9 :: v10 :: v11 :: v12 :: v13 :: r))) 13 v = .inl (c, v0 :: v1 :: v2 :: v3 :: v4 :: v5 :: v6 :: v7 :: v8 :: v9 :: v10 :: v11 :: v12 :: v :: r) := rfl
theorem fGet_14 (c : Nat) (v0 v1 v2 v3 v4 v5 v6 v7 v8 v9 v10 v11 v12 v13 v14 : Value) (r : List Value) : fGet (some (.inl (c, v0 :: v1 :: v2 :: v3 :: v4 :: v5 :: v6 :: v7 :: v8 :: v9 :: v10 :: v11 :: v12 :: v13 :: v14 :: r))) 14 = v14 := rfl
theorem fOk_14 (c : Nat) (v0 v1 v2 v3 v4 v5 v6 v7 v8 v9 v10 v11 v12 v13 v14 : Value) (r : List Value) : (fOk (some (.inl (c, v0 :: v1 :: v2 :: v3 :: v4 :: v5 :: v6 :: v7 :: v8 :: v9 :: v10 :: v11 :: v12 :: v13 :: v14 :: r))) c 14 = true) = True := by simp [fOk]
theorem fSet_14 (c : Nat) (v0 v1 v2 v3 v4 v5 v6 v7 v8 v9 v10 v11 v12 v13 v14 v : Value) (r : List Value) : fSet (some (.inl (c, v0 :: v1 :: v2 :: v3 :: v4 :: v5 :: v6 :: v7 :: v8 :: v9 :: v10 :: v11 :: v12 :: v13 :: v14 :: r))) 14 v = .inl (c, v0 :: v1 :: v2 :: v3 :: v4 :: v5 :: v6 :: v7 :: v8 :: v9 :: v10 :: v11 :: v12 :: v13 :: v :: r) := rfl
theorem fGet_15 (c : Nat) (v0 v1 v2 v3 v4 v5 v6 v7 v8 v9 v10 v11 v12 v13 v14 v15 : Value) (r : List Value) : fGet (some (.inl (c, v0 :: v1 :: v2 :: v3 :: v4 :: v5 :: v6 :: v7 :: v8 :: v9 :: v10 :: v11 :: v12 :: v13 :: v14 :: v15 :: r))) 15 = v15 := rfl
theorem fOk_15 (c : Nat) (v0 v1 v2 v3 v4 v5 v6 v7 v8 v9 v10 v11 v12 v13 v14 v15 : Value) (r : List Value) : (fOk (some (.inl (c, v0 :: v1 :: v2 :: v3 :: v4 :: v5 :: v6 :: v7 :: v8 :: v9 :: v10 :: v11 :: v12 :: v13 :: v14 :: v15 :: r))) c 15 = true) = True := by simp [fOk]
theorem fSet_15 (c : Nat) (v0 v1 v2 v3 v4 v5 v6 v7 v8 v9 v10 v11 v12 v13 v14 v15 v : Value) (r : List Value) : fSet (some (.inl (c, v0 :: v1 :: v2 :: v3 :: v4 :: v5 :: v6 :: v7 :: v8 :: v9 :: v10 :: v11 :: v12 :: v13 :: v14 :: v15 :: r))) 15 v = .inl (c, v0 :: v1 :: v2 :: v3 :: v4 :: v5 :: v6 :: v7 :: v8 :: v9 :: v10 :: v11 :: v12 :: v13 :: v14 :: v :: r) := rfl
theorem fGet_16 (c : Nat) (v0 v1 v2 v3 v4 v5 v6 v7 v8 v9 v10 v11 v12 v13 v14 v15 v16 : Value) (r : List Value) : fGet (some (.inl (c, v0 :: v1 :: v2 :: v3 :: v4 :: v5 :: v6 :: v7 :: v8 :: v9 :: v10 :: v11 :: v12 :: v13 :: v14 :: v15 :: v16 :: r))) 16 = v16 := rfl
theorem fOk_16 (c : Nat) (v0 v1 v2 v3 v4 v5 v6 v7 v8 v9 v10 v11 v12 v13 v14 v15 v16 : Value) (r : List Value) : (fOk (some (.inl (c, v0 :: v1 :: v2 :: v3 :: v4 :: v5 :: v6 :: v7 :: v8 :: v9 :: v10 :: v11 :: v12 :: v13 :: v14 :: v15 :: v16 :: r))) c 16 = true) = True := by simp [fOk]
theorem fSet_16 (c : Nat) (v0 v1 v2 v3 v4 v5 v6 v7 v8 v9 v10 v11 v12 v13 v14 v15 v16 v : Value) (r : List Value) : fSet (some (.inl (c, v0 :: v1 :: v2 :: v3 :: v4 :: v5 :: v6 :: v7 :: v8 :: v9 :: v10 :: v11 :: v12 :: v13 :: v14 :: v15 :: v16 :: r))) 16 v = .inl (c, v0 :: v1 :: v2 :: v3 :: v4 :: v5 :: v6 :: v7 :: v8 :: v9 :: v10 :: v11 :: v12 :: v13 :: v14 :: v15 :: v :: r) := rfl
theorem fGet_17 (c : Nat) (v0 v1 v2 v3 v4 v5 v6 v7 v8 v9 v10 v11 v12 v13 v14 v15 v16 v17 : Value) (r : List Value) : fGet (some (.inl (c, v0 :: v1 :: v2 :: v3 :: v4 :: v5 :: v6 :: v7 :: v8 :: v9 :: v10 :: v11 :: v12 :: v13 :: v14 :: v15 :: v16 :: v17 :: r))) 17 = v17 := rfl
theorem fOk_17 (c : Nat) (v0 v1 v2 v3 v4 v5 v6 v7 v8 v9 v10 v11 v12 v13 v14 v15 v16 v17 : Value) (r : List Value) : (fOk (some (.inl (c, v0 :: v1 :: v2 :: v3 :: v4 :: v5 :: v6 :: v7 :: v8 :: v9 :: v10 :: v11 :: v12 :: v13 :: v14 :: v15 :: v16 :: v17 :: r))) c 17 = true) = True := by simp [fOk]
theorem fSet_17 (c : Nat) (v0 v1 v2 v3 v4 v5 v6 v7 v8 v9 v10 v11 v12 v13 v14 v15 v16 v17 v : Value) (r : List Value) : fSet (some (.inl (c, v0 :: v1 :: v2 :: v3 :: v4 :: v5 :: v6 :: v7 :: v8 :: v9 :: v10 :: v11 :: v12 :: v13 :: v14 :: v15 :: v16 :: v17 :: r))) 17 v = .inl (c, v0 :: v1 :: v2 :: v3 :: v4 :: v5 :: v6 :: v7 :: v8 :: v9 :: v10 :: v11 :: v12 :: v13 :: v14 :: v15 :: v16 :: v :: r) := rfl
theorem fGet_18 (c : Nat) (v0 v1 v2 v3 v4 v5 v6 v7 v8 v9 v10 v11 v12 v13 v14 v15 v16 v17 v18 : Value) (r : List Value) : fGet (some (.inl (c, v0 :: v1 :: v2 :: v3 :: v4 :: v5 :: v6 :: v7 :: v8 :: v9 :: v10 :: v11 :: v12 :: v13 :: v14 :: v15 :: v16 :: v17 :: v18 :: r))) 18 = v18 := rfl
theorem fOk_18 (c : Nat) (v0 v1 v2 v3 v4 v5 v6 v7 v8 v9 v10 v11 v12 v13 v14 v15 v16 v17 v18 : Value) (r : List Value) : (fOk (some (.inl (c, v0 :: v1 :: v2 :: v3 :: v4 :: v5 :: v6 :: v7 :: v8 :: v9 :: v10 :: v11 :: v12 :: v13 :: v14 :: v15 :: v16 :: v17 :: v18 :: r))) c 18 = true) = True := by simp [fOk]
theorem fSet_18 (c : Nat) (v0 v1 v2 v3 v4 v5 v6 v7 v8 v9 v10 v11 v12 v13 v14 v15 v16 v17 v18 v : Value) (r : List Value) : fSet (some (.inl (c, v0 :: v1 :: v2 :: v3 :: v4 :: v5 :: v6 :: v7 :: v8 :: v9 :: v10 :: v11 :: v12 :: v13 :: v14 :: v15 :: v16 :: v17 :: v18 :: r))) 18 v = .inl (c, v0 :: v1 :: v2 :: v3 :: v4 :: v5 :: v6 :: v7 :: v8 :: v9 :: v10 :: v11 :: v12 :: v13 :: v14 :: v15 :: v16 :: v17 :: v :: r) := rfl
theorem bkIs_e (c : Nat) (fs : List Value) : (bkIs (some (.inl (c, fs))) c = true) = True := by simp [bkIs]
theorem rI_o {G : bkG} {h : bkHS} {a : Nat} {q : Nat × (Nat → Int32)} (ha : h a = some (.inr (.inl q))) : rI G h a = some q := by unfold rI; rw [ha]
theorem rI_n {G : bkG} {h : bkHS} {a : Nat} (ha : h a = none) : rI G h a = gR G a := by unfold rI; rw [ha]
theorem rIw_o (q : Nat × (Nat → Int32)) : rIw (some (.inr (.inl q))) = some q := rfl
theorem rL_o (q : Nat × (Nat → Int64)) : rL (some (.inr (.inr (.inl q)))) = some q := rfl
theorem rC_o (q : Nat × (Nat → Int32)) : rC (some (.inr (.inr (.inr (.inl q))))) = some q := rfl
theorem rD_o (q : Nat × (Nat → UInt64)) : rD (some (.inr (.inr (.inr (.inr (.inl q)))))) = some q := rfl
theorem rQ_o (q : Nat × (Nat → Option Nat)) : rQ (some (.inr (.inr (.inr (.inr (.inr q)))))) = some q := rfl
theorem bkIn_o {α : Type} (n : Nat) (f : Nat → α) (i : Int32) : bkIn (some (n, f)) i = vp_in i n := rfl
theorem bkEl_o {α : Type} (n : Nat) (f : Nat → α) (i : Int32) (d : α) : bkEl (some (n, f)) i d = f i.toNatClampNeg := rfl
theorem bkUp_o {α : Type} (n : Nat) (f : Nat → α) (i : Int32) (x : α) : bkUp (some (n, f)) i x = (n, va_up f i.toNatClampNeg x) := rfl
theorem cats_n : cats [] = 0 := rfl
theorem cats_i (x : Int32) (r : List Value) : cats (.int x :: r) = 1 + cats r := by unfold cats; simp [Value.category]
theorem cats_r (x : Nat) (r : List Value) : cats (.ref x :: r) = 1 + cats r := by unfold cats; simp [Value.category]
theorem cats_l (x : Int64) (r : List Value) : cats (.long x :: r) = 2 + cats r := by unfold cats; simp [Value.category]
theorem cats_d (x : UInt64) (r : List Value) : cats (.double x :: r) = 2 + cats r := by unfold cats; simp [Value.category]
theorem kl_i (x : Int32) : kl (some (.int x)) = some (.int x) := rfl
theorem kl_r (x : Nat) : kl (some (.ref x)) = some (.ref x) := rfl
theorem kl_n : kl none = none := rfl
theorem kl_l (x : Int64) : kl (some (.long x)) = none := rfl
theorem kl_d (x : UInt64) : kl (some (.double x)) = none := rfl
theorem ok_b0 : bkOkV .boolean (.int 0) = True := propext ⟨fun _ => trivial, fun _ => ⟨rfl, rfl⟩⟩
theorem ok_b1 : bkOkV .boolean (.int 1) = True := propext ⟨fun _ => trivial, fun _ => ⟨rfl, rfl⟩⟩
theorem bkK_v (M : bkM) (Post : bkPo) (K : bkV) (pc : Nat) (lv : List (Option Value)) (r : List Value) (k n : Nat) (v : Value) (h : bkHS) (z : Option Nat) : bkK M Post K pc lv r k n (.inl (some v)) h z = K (pc + 3) lv (v :: r) h z k n := rfl
theorem bkK_0 (M : bkM) (Post : bkPo) (K : bkV) (pc : Nat) (lv : List (Option Value)) (r : List Value) (k n : Nat) (h : bkHS) (z : Option Nat) : bkK M Post K pc lv r k n (.inl none) h z = K (pc + 3) lv r h z k n := rfl
theorem bkK_x {M : bkM} (hM : mH M = []) (Post : bkPo) (K : bkV) (pc : Nat) (lv : List (Option Value)) (r : List Value) (k n e : Nat) (h : bkHS) (z : Option Nat) : bkK M Post K pc lv r k n (.inr e) h z = (k ≤ mC M ∧ n ≤ mS M ∧ Post (.inr e) h none) := by
  show bkX M Post K pc lv e h k n = _
  unfold bkX
  rw [hM]
theorem wr_s (h : bkHS) (a : Nat) (e : bkE) : wr h a e a = some e := if_pos rfl
theorem wr_n (h : bkHS) (e : bkE) {a b : Nat} (hb : b ≠ a) : wr h a e b = h b := if_neg hb
theorem wr_wr (h : bkHS) (a : Nat) (e e' : bkE) : wr (wr h a e) a e' = wr h a e' := by
  funext q
  unfold wr
  by_cases hq : q = a
  · rw [if_pos hq, if_pos hq]
  · rw [if_neg hq, if_neg hq, if_neg hq]
/-- arguments of one word each -/
def av1 : List Value → Bool
  | [] => true
  | .int _ :: r => av1 r
  | .ref _ :: r => av1 r
  | _ => false
theorem av1_spec : ∀ {av : List Value}, av1 av = true → ∀ w ∈ av, w.category = 1 := by
  intro av
  induction av with
  | nil => intro _ w h; cases h
  | cons v r ih =>
    intro h w hw
    cases v <;> first
      | exact absurd h Bool.false_ne_true
      | (rcases List.mem_cons.mp hw with rfl | hw
         · rfl
         · exact ih h w hw)
/-- a method's contract, from the walk at its entry with the locals as they stand there -/
theorem meth {G : bkG} {M : bkM} {av : List Value} {h : bkHS} {z : Option Nat} {Post : bkPo} {lv : List (Option Value)} (hM : MethOK M) (ho : mO M < 12) (hc : av1 av = true) (hl : av.length ≤ mL M) (he : bkEn M av = lv) (hw : wp G M Post 0 lv [] h z 0 0) : CM G M av h z Post := by
  subst he
  exact bk_meth hM ho (av1_spec hc) hl hw
theorem wr_q (h : bkHS) (a : Nat) (e : bkE) (q : Nat) : wr h a e q = if q = a then some e else h q := rfl
theorem nz_1 : ((1 : Nat) = 0) = False := by simp
theorem nz_2 : ((2 : Nat) = 0) = False := by simp
theorem nz_3 : ((3 : Nat) = 0) = False := by simp
theorem nz_4 : ((4 : Nat) = 0) = False := by simp
theorem nz_5 : ((5 : Nat) = 0) = False := by simp
theorem nz_6 : ((6 : Nat) = 0) = False := by simp
theorem nz_7 : ((7 : Nat) = 0) = False := by simp
theorem nz_8 : ((8 : Nat) = 0) = False := by simp
theorem nz_9 : ((9 : Nat) = 0) = False := by simp
theorem nz_10 : ((10 : Nat) = 0) = False := by simp
theorem nz_11 : ((11 : Nat) = 0) = False := by simp
theorem nz_12 : ((12 : Nat) = 0) = False := by simp
/-- nothing else has changed than n cells from a on -/
def Same (h h' : bkHS) (a n : Nat) : Prop := ∀ q, (q < a ∨ a + n ≤ q) → h' q = h q
theorem Same.rf {h : bkHS} {a n : Nat} : Same h h a n := fun _ _ => rfl
theorem Same.wr {h h' : bkHS} {a n b : Nat} {e : bkE} (s : Same h h' a n) (hb : a ≤ b ∧ b < a + n) : Same h (wr h' b e) a n := fun q hq => by
  rw [wr_n h' e (by omega)]
  exact s q hq
theorem Same.sub {h h' : bkHS} {a n b k : Nat} (s : Same h h' b k) (h1 : a ≤ b) (h2 : b + k ≤ a + n) : Same h h' a n := fun q hq => s q (by omega)
theorem Same.tr {h h' h'' : bkHS} {a n : Nat} (s : Same h h' a n) (t : Same h' h'' a n) : Same h h'' a n := fun q hq => (t q hq).trans (s q hq)
theorem rI_w (G : bkG) (h : bkHS) (b : Nat) (e : bkE) (a : Nat) : rI G (wr h b e) a = if a = b then rIw (some e) else rI G h a := by
  unfold rI wr
  by_cases hq : a = b
  · rw [if_pos hq, if_pos hq]
    rcases e with e | e | e | e | e | e <;> rfl
  · rw [if_neg hq, if_neg hq]
theorem cpy_all {α : Type} (f g : Nat → α) {n : Nat} {q : Int32} (hq : q.toNatClampNeg = n) : ∀ j, j < n → f j = va_cpy f g (0 : Int32).toNatClampNeg (0 : Int32).toNatClampNeg q.toNatClampNeg j := by
  intro j hj
  rw [hq]
  show f j = if 0 ≤ j ∧ j < 0 + n then f (0 + (j - 0)) else g j
  rw [if_pos (by omega)]
  congr 1
  omega
theorem nat_of0 {q : Int32} {n : Nat} (hn : n ≠ 0) (hq : q.toNatClampNeg = n) : ¬ q < 0 := by
  intro hl
  have h1 : q.toInt < 0 := Int32.lt_iff_toInt_lt.mp hl
  have h2 : q.toInt.toNat = n := hq
  omega
/-- a whole array is copied -/
theorem k_cpyI {G : bkG} {M : bkM} {Post : bkPo} {pc pc' idx k n : Nat} {lv : List (Option Value)} {r : List Value} {h : bkHS} {z : Option Nat} {q : Int32} {a b w : Nat} {f g : Nat → Int32} (hd : decode (mB M) pc = .ok (.invokestatic idx, 3)) (hp : pc + 3 = pc') (hl : bkLk (mO M) idx = some (kB 2)) (hb : h b = some (eI w f)) (ha : h a = some (eI w g)) (hw0 : w ≠ 0) (hq : q.toNatClampNeg = w) (hw : ∀ h', h' a = some (eI w f) → (∀ p, p ≠ a → h' p = h p) → wp G M Post pc' lv r h' z k n) (hc : cats r ≤ 8 := by decide) : wp G M Post pc lv (.int q :: .int 0 :: .ref a :: .int 0 :: .ref b :: r) h z k n :=
  e_copyI hd hp hl hb ha hc (by decide) (by decide) (nat_of0 hw0 hq) (by rw [hq]; show 0 + w ≤ w; omega) (by rw [hq]; show 0 + w ≤ w; omega) (cpy_all f g hq) (hw _ (wr_s _ _ _) fun p hp => wr_n _ _ hp)
theorem k_cpyL {G : bkG} {M : bkM} {Post : bkPo} {pc pc' idx k n : Nat} {lv : List (Option Value)} {r : List Value} {h : bkHS} {z : Option Nat} {q : Int32} {a b w : Nat} {f g : Nat → Int64} (hd : decode (mB M) pc = .ok (.invokestatic idx, 3)) (hp : pc + 3 = pc') (hl : bkLk (mO M) idx = some (kB 2)) (hb : h b = some (eL w f)) (ha : h a = some (eL w g)) (hw0 : w ≠ 0) (hq : q.toNatClampNeg = w) (hw : ∀ h', h' a = some (eL w f) → (∀ p, p ≠ a → h' p = h p) → wp G M Post pc' lv r h' z k n) (hc : cats r ≤ 8 := by decide) : wp G M Post pc lv (.int q :: .int 0 :: .ref a :: .int 0 :: .ref b :: r) h z k n :=
  e_copyL hd hp hl hb ha hc (by decide) (by decide) (nat_of0 hw0 hq) (by rw [hq]; show 0 + w ≤ w; omega) (by rw [hq]; show 0 + w ≤ w; omega) (cpy_all f g hq) (hw _ (wr_s _ _ _) fun p hp => wr_n _ _ hp)
-- comparisons of small literals
theorem ill_m1_m1 : ((-1 : Int32) ≤ (-1 : Int32)) = True := by decide
theorem ilt_m1_m1 : ((-1 : Int32) < (-1 : Int32)) = False := by decide
theorem ile_m1_0 : ((-1 : Int32) = (0 : Int32)) = False := by simp
theorem ill_m1_0 : ((-1 : Int32) ≤ (0 : Int32)) = True := by decide
theorem ilt_m1_0 : ((-1 : Int32) < (0 : Int32)) = True := by decide
theorem ile_m1_1 : ((-1 : Int32) = (1 : Int32)) = False := by simp
theorem ill_m1_1 : ((-1 : Int32) ≤ (1 : Int32)) = True := by decide
theorem ilt_m1_1 : ((-1 : Int32) < (1 : Int32)) = True := by decide
theorem ile_m1_2 : ((-1 : Int32) = (2 : Int32)) = False := by simp
theorem ill_m1_2 : ((-1 : Int32) ≤ (2 : Int32)) = True := by decide
theorem ilt_m1_2 : ((-1 : Int32) < (2 : Int32)) = True := by decide
theorem ile_m1_3 : ((-1 : Int32) = (3 : Int32)) = False := by simp
theorem ill_m1_3 : ((-1 : Int32) ≤ (3 : Int32)) = True := by decide
theorem ilt_m1_3 : ((-1 : Int32) < (3 : Int32)) = True := by decide
theorem ile_m1_4 : ((-1 : Int32) = (4 : Int32)) = False := by simp
theorem ill_m1_4 : ((-1 : Int32) ≤ (4 : Int32)) = True := by decide
theorem ilt_m1_4 : ((-1 : Int32) < (4 : Int32)) = True := by decide
theorem ile_m1_5 : ((-1 : Int32) = (5 : Int32)) = False := by simp
theorem ill_m1_5 : ((-1 : Int32) ≤ (5 : Int32)) = True := by decide
theorem ilt_m1_5 : ((-1 : Int32) < (5 : Int32)) = True := by decide
theorem ile_0_m1 : ((0 : Int32) = (-1 : Int32)) = False := by simp
theorem ill_0_m1 : ((0 : Int32) ≤ (-1 : Int32)) = False := by decide
theorem ilt_0_m1 : ((0 : Int32) < (-1 : Int32)) = False := by decide
theorem ill_0_0 : ((0 : Int32) ≤ (0 : Int32)) = True := by decide
theorem ilt_0_0 : ((0 : Int32) < (0 : Int32)) = False := by decide
theorem ile_0_1 : ((0 : Int32) = (1 : Int32)) = False := by simp
theorem ill_0_1 : ((0 : Int32) ≤ (1 : Int32)) = True := by decide
theorem ilt_0_1 : ((0 : Int32) < (1 : Int32)) = True := by decide
theorem ile_0_2 : ((0 : Int32) = (2 : Int32)) = False := by simp
theorem ill_0_2 : ((0 : Int32) ≤ (2 : Int32)) = True := by decide
theorem ilt_0_2 : ((0 : Int32) < (2 : Int32)) = True := by decide
theorem ile_0_3 : ((0 : Int32) = (3 : Int32)) = False := by simp
theorem ill_0_3 : ((0 : Int32) ≤ (3 : Int32)) = True := by decide
theorem ilt_0_3 : ((0 : Int32) < (3 : Int32)) = True := by decide
theorem ile_0_4 : ((0 : Int32) = (4 : Int32)) = False := by simp
theorem ill_0_4 : ((0 : Int32) ≤ (4 : Int32)) = True := by decide
theorem ilt_0_4 : ((0 : Int32) < (4 : Int32)) = True := by decide
theorem ile_0_5 : ((0 : Int32) = (5 : Int32)) = False := by simp
theorem ill_0_5 : ((0 : Int32) ≤ (5 : Int32)) = True := by decide
theorem ilt_0_5 : ((0 : Int32) < (5 : Int32)) = True := by decide
theorem ile_1_m1 : ((1 : Int32) = (-1 : Int32)) = False := by simp
theorem ill_1_m1 : ((1 : Int32) ≤ (-1 : Int32)) = False := by decide
theorem ilt_1_m1 : ((1 : Int32) < (-1 : Int32)) = False := by decide
theorem ile_1_0 : ((1 : Int32) = (0 : Int32)) = False := by simp
theorem ill_1_0 : ((1 : Int32) ≤ (0 : Int32)) = False := by decide
theorem ilt_1_0 : ((1 : Int32) < (0 : Int32)) = False := by decide
theorem ill_1_1 : ((1 : Int32) ≤ (1 : Int32)) = True := by decide
theorem ilt_1_1 : ((1 : Int32) < (1 : Int32)) = False := by decide
theorem ile_1_2 : ((1 : Int32) = (2 : Int32)) = False := by simp
theorem ill_1_2 : ((1 : Int32) ≤ (2 : Int32)) = True := by decide
theorem ilt_1_2 : ((1 : Int32) < (2 : Int32)) = True := by decide
theorem ile_1_3 : ((1 : Int32) = (3 : Int32)) = False := by simp
theorem ill_1_3 : ((1 : Int32) ≤ (3 : Int32)) = True := by decide
theorem ilt_1_3 : ((1 : Int32) < (3 : Int32)) = True := by decide
theorem ile_1_4 : ((1 : Int32) = (4 : Int32)) = False := by simp
theorem ill_1_4 : ((1 : Int32) ≤ (4 : Int32)) = True := by decide
theorem ilt_1_4 : ((1 : Int32) < (4 : Int32)) = True := by decide
theorem ile_1_5 : ((1 : Int32) = (5 : Int32)) = False := by simp
theorem ill_1_5 : ((1 : Int32) ≤ (5 : Int32)) = True := by decide
theorem ilt_1_5 : ((1 : Int32) < (5 : Int32)) = True := by decide
theorem ile_2_m1 : ((2 : Int32) = (-1 : Int32)) = False := by simp
theorem ill_2_m1 : ((2 : Int32) ≤ (-1 : Int32)) = False := by decide
theorem ilt_2_m1 : ((2 : Int32) < (-1 : Int32)) = False := by decide
theorem ile_2_0 : ((2 : Int32) = (0 : Int32)) = False := by simp
theorem ill_2_0 : ((2 : Int32) ≤ (0 : Int32)) = False := by decide
theorem ilt_2_0 : ((2 : Int32) < (0 : Int32)) = False := by decide
theorem ile_2_1 : ((2 : Int32) = (1 : Int32)) = False := by simp
theorem ill_2_1 : ((2 : Int32) ≤ (1 : Int32)) = False := by decide
theorem ilt_2_1 : ((2 : Int32) < (1 : Int32)) = False := by decide
theorem ill_2_2 : ((2 : Int32) ≤ (2 : Int32)) = True := by decide
theorem ilt_2_2 : ((2 : Int32) < (2 : Int32)) = False := by decide
theorem ile_2_3 : ((2 : Int32) = (3 : Int32)) = False := by simp
theorem ill_2_3 : ((2 : Int32) ≤ (3 : Int32)) = True := by decide
theorem ilt_2_3 : ((2 : Int32) < (3 : Int32)) = True := by decide
theorem ile_2_4 : ((2 : Int32) = (4 : Int32)) = False := by simp
theorem ill_2_4 : ((2 : Int32) ≤ (4 : Int32)) = True := by decide
theorem ilt_2_4 : ((2 : Int32) < (4 : Int32)) = True := by decide
theorem ile_2_5 : ((2 : Int32) = (5 : Int32)) = False := by simp
theorem ill_2_5 : ((2 : Int32) ≤ (5 : Int32)) = True := by decide
theorem ilt_2_5 : ((2 : Int32) < (5 : Int32)) = True := by decide
theorem ile_3_m1 : ((3 : Int32) = (-1 : Int32)) = False := by simp
theorem ill_3_m1 : ((3 : Int32) ≤ (-1 : Int32)) = False := by decide
theorem ilt_3_m1 : ((3 : Int32) < (-1 : Int32)) = False := by decide
theorem ile_3_0 : ((3 : Int32) = (0 : Int32)) = False := by simp
theorem ill_3_0 : ((3 : Int32) ≤ (0 : Int32)) = False := by decide
theorem ilt_3_0 : ((3 : Int32) < (0 : Int32)) = False := by decide
theorem ile_3_1 : ((3 : Int32) = (1 : Int32)) = False := by simp
theorem ill_3_1 : ((3 : Int32) ≤ (1 : Int32)) = False := by decide
theorem ilt_3_1 : ((3 : Int32) < (1 : Int32)) = False := by decide
theorem ile_3_2 : ((3 : Int32) = (2 : Int32)) = False := by simp
theorem ill_3_2 : ((3 : Int32) ≤ (2 : Int32)) = False := by decide
theorem ilt_3_2 : ((3 : Int32) < (2 : Int32)) = False := by decide
theorem ill_3_3 : ((3 : Int32) ≤ (3 : Int32)) = True := by decide
theorem ilt_3_3 : ((3 : Int32) < (3 : Int32)) = False := by decide
theorem ile_3_4 : ((3 : Int32) = (4 : Int32)) = False := by simp
theorem ill_3_4 : ((3 : Int32) ≤ (4 : Int32)) = True := by decide
theorem ilt_3_4 : ((3 : Int32) < (4 : Int32)) = True := by decide
theorem ile_3_5 : ((3 : Int32) = (5 : Int32)) = False := by simp
theorem ill_3_5 : ((3 : Int32) ≤ (5 : Int32)) = True := by decide
theorem ilt_3_5 : ((3 : Int32) < (5 : Int32)) = True := by decide
theorem ile_4_m1 : ((4 : Int32) = (-1 : Int32)) = False := by simp
theorem ill_4_m1 : ((4 : Int32) ≤ (-1 : Int32)) = False := by decide
theorem ilt_4_m1 : ((4 : Int32) < (-1 : Int32)) = False := by decide
theorem ile_4_0 : ((4 : Int32) = (0 : Int32)) = False := by simp
theorem ill_4_0 : ((4 : Int32) ≤ (0 : Int32)) = False := by decide
theorem ilt_4_0 : ((4 : Int32) < (0 : Int32)) = False := by decide
theorem ile_4_1 : ((4 : Int32) = (1 : Int32)) = False := by simp
theorem ill_4_1 : ((4 : Int32) ≤ (1 : Int32)) = False := by decide
theorem ilt_4_1 : ((4 : Int32) < (1 : Int32)) = False := by decide
theorem ile_4_2 : ((4 : Int32) = (2 : Int32)) = False := by simp
theorem ill_4_2 : ((4 : Int32) ≤ (2 : Int32)) = False := by decide
theorem ilt_4_2 : ((4 : Int32) < (2 : Int32)) = False := by decide
theorem ile_4_3 : ((4 : Int32) = (3 : Int32)) = False := by simp
theorem ill_4_3 : ((4 : Int32) ≤ (3 : Int32)) = False := by decide
theorem ilt_4_3 : ((4 : Int32) < (3 : Int32)) = False := by decide
theorem ill_4_4 : ((4 : Int32) ≤ (4 : Int32)) = True := by decide
theorem ilt_4_4 : ((4 : Int32) < (4 : Int32)) = False := by decide
theorem ile_4_5 : ((4 : Int32) = (5 : Int32)) = False := by simp
theorem ill_4_5 : ((4 : Int32) ≤ (5 : Int32)) = True := by decide
theorem ilt_4_5 : ((4 : Int32) < (5 : Int32)) = True := by decide
theorem ile_5_m1 : ((5 : Int32) = (-1 : Int32)) = False := by simp
theorem ill_5_m1 : ((5 : Int32) ≤ (-1 : Int32)) = False := by decide
theorem ilt_5_m1 : ((5 : Int32) < (-1 : Int32)) = False := by decide
theorem ile_5_0 : ((5 : Int32) = (0 : Int32)) = False := by simp
theorem ill_5_0 : ((5 : Int32) ≤ (0 : Int32)) = False := by decide
theorem ilt_5_0 : ((5 : Int32) < (0 : Int32)) = False := by decide
theorem ile_5_1 : ((5 : Int32) = (1 : Int32)) = False := by simp
theorem ill_5_1 : ((5 : Int32) ≤ (1 : Int32)) = False := by decide
theorem ilt_5_1 : ((5 : Int32) < (1 : Int32)) = False := by decide
theorem ile_5_2 : ((5 : Int32) = (2 : Int32)) = False := by simp
theorem ill_5_2 : ((5 : Int32) ≤ (2 : Int32)) = False := by decide
theorem ilt_5_2 : ((5 : Int32) < (2 : Int32)) = False := by decide
theorem ile_5_3 : ((5 : Int32) = (3 : Int32)) = False := by simp
theorem ill_5_3 : ((5 : Int32) ≤ (3 : Int32)) = False := by decide
theorem ilt_5_3 : ((5 : Int32) < (3 : Int32)) = False := by decide
theorem ile_5_4 : ((5 : Int32) = (4 : Int32)) = False := by simp
theorem ill_5_4 : ((5 : Int32) ≤ (4 : Int32)) = False := by decide
theorem ilt_5_4 : ((5 : Int32) < (4 : Int32)) = False := by decide
theorem ill_5_5 : ((5 : Int32) ≤ (5 : Int32)) = True := by decide
theorem ilt_5_5 : ((5 : Int32) < (5 : Int32)) = False := by decide
theorem ila_0 : (0 : Int32) + 1 = (1 : Int32) := rfl
theorem ila_1 : (1 : Int32) + 1 = (2 : Int32) := rfl
theorem ila_2 : (2 : Int32) + 1 = (3 : Int32) := rfl
theorem ila_3 : (3 : Int32) + 1 = (4 : Int32) := rfl
theorem ila_4 : (4 : Int32) + 1 = (5 : Int32) := rfl
theorem ila_5 : (5 : Int32) + 1 = (6 : Int32) := rfl
