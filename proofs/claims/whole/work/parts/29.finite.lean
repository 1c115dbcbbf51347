/-! 29: facts over finitely many numbers -/
theorem bitT {m k : Nat} (hm : m < 1024) (hk : k < 10) : (nI m >>> (nI k &&& 31)) &&& 1 = if m.testBit k then 1 else 0 := by
  have : ∀ k : Nat, k < 10 → ∀ m : Nat, m < 1024 → (nI m >>> (nI k &&& 31)) &&& 1 = if m.testBit k then 1 else 0 := by decide +kernel
  exact this k hk m hm
