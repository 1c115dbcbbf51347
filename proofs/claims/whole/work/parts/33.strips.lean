/-! 33: the least length of cloth: sets of books, lists of strips -/
abbrev BS : Type := Nat → Bool
def dif (X Y : BS) : BS := fun b => X b && !Y b
def sbs (Y X : BS) : Prop := ∀ b, Y b = true → X b = true
def sumB (w : Nat → Nat) (X : BS) : Nat → Nat
  | 0 => 0
  | k + 1 => sumB w X k + (if X k then w k else 0)
def maxB (l : Nat → Nat) (X : BS) : Nat → Nat
  | 0 => 0
  | k + 1 => if X k then max (maxB l X k) (l k) else maxB l X k
def Fit (w : Nat → Nat) (ro : Nat) (Y : BS) : Prop := sumB w Y 10 ≤ ro
def Par (w : Nat → Nat) (ro : Nat) : BS → List BS → Prop
  | X, [] => ∀ b, X b = false
  | X, Y :: t => sbs Y X ∧ Fit w ro Y ∧ Par w ro (dif X Y) t
def cst (l : Nat → Nat) : List BS → Nat
  | [] => 0
  | Y :: t => maxB l Y 10 + cst l t
/-- the least length of the strips of a set -/
def Lst (w l : Nat → Nat) (ro : Nat) (X : BS) (v : Nat) : Prop := (∃ t, Par w ro X t ∧ cst l t = v) ∧ ∀ t, Par w ro X t → v ≤ cst l t
theorem lst_uniq {w l : Nat → Nat} {ro : Nat} {X : BS} {v v' : Nat} (h : Lst w l ro X v) (h' : Lst w l ro X v') : v = v' := by
  obtain ⟨⟨t, a, b⟩, c⟩ := h
  obtain ⟨⟨t', a', b'⟩, c'⟩ := h'
  have := c t' a'
  have := c' t a
  omega
theorem lst_empty {w l : Nat → Nat} {ro : Nat} {X : BS} (h : ∀ b, X b = false) : Lst w l ro X 0 := ⟨⟨[], h, rfl⟩, fun _ _ => Nat.zero_le _⟩
theorem dif_dif (X Y Z : BS) : dif (dif X Y) Z = dif (dif X Z) Y := by
  funext b
  unfold dif
  cases X b <;> cases Y b <;> cases Z b <;> rfl
theorem dif_t {X Y : BS} {b : Nat} : dif X Y b = true ↔ X b = true ∧ Y b = false := by
  unfold dif
  cases X b <;> cases Y b <;> simp
theorem par_move {w l : Nat → Nat} {ro : Nat} : ∀ (t : List BS) (X : BS) (x : Nat), Par w ro X t → X x = true → ∃ Y t', Y x = true ∧ Par w ro X (Y :: t') ∧ cst l (Y :: t') = cst l t := by
  intro t
  induction t with
  | nil =>
    intro X x h hx
    rw [h x] at hx
    exact absurd hx Bool.false_ne_true
  | cons Z t ih =>
    intro X x h hx
    obtain ⟨h1, h2, h3⟩ := h
    by_cases q : Z x = true
    · exact ⟨Z, t, q, ⟨h1, h2, h3⟩, rfl⟩
    · obtain ⟨Y, t', a, ⟨b1, b2, b3⟩, c⟩ := ih (dif X Z) x h3 (dif_t.mpr ⟨hx, by simpa using q⟩)
      refine ⟨Y, Z :: t', a, ⟨fun b hb => (dif_t.mp (b1 b hb)).1, b2, fun b hb => ?_, h2, ?_⟩, ?_⟩
      · refine dif_t.mpr ⟨h1 b hb, ?_⟩
        cases e : Y b with
        | false => rfl
        | true =>
          have := (dif_t.mp (b1 b e)).2
          rw [hb] at this
          exact absurd this (by decide)
      · rw [dif_dif]; exact b3
      · have : maxB l Y 10 + cst l t' = cst l t := c
        show maxB l Y 10 + (maxB l Z 10 + cst l t') = maxB l Z 10 + cst l t
        omega
theorem lst_rec {w l : Nat → Nat} {ro : Nat} {X : BS} {x v : Nat} (hx : X x = true) (h1 : ∃ Y u, sbs Y X ∧ Fit w ro Y ∧ Lst w l ro (dif X Y) u ∧ v = maxB l Y 10 + u) (h2 : ∀ Y, sbs Y X → Y x = true → Fit w ro Y → ∃ u, Lst w l ro (dif X Y) u ∧ v ≤ maxB l Y 10 + u) : Lst w l ro X v := by
  constructor
  · obtain ⟨Y, u, a, b, ⟨⟨t, c, d⟩, _⟩, e⟩ := h1
    exact ⟨Y :: t, ⟨a, b, c⟩, by rw [e, ← d]; rfl⟩
  · intro t ht
    obtain ⟨Y, t', a, ⟨b1, b2, b3⟩, c⟩ := par_move (l := l) t X x ht hx
    obtain ⟨u, ⟨_, d⟩, e⟩ := h2 Y b1 a b2
    have := d t' b3
    rw [← c]
    show v ≤ maxB l Y 10 + cst l t'
    omega
theorem sumB_congr {w : Nat → Nat} {X Y : BS} : ∀ n, (∀ b, b < n → X b = Y b) → sumB w X n = sumB w Y n := by
  intro n
  induction n with
  | zero => intro _; rfl
  | succ n ih =>
    intro h
    unfold sumB
    rw [ih fun b hb => h b (by omega), h n (by omega)]
/-- one more book -/
theorem sumB_ins {w : Nat → Nat} {X Y : BS} {x : Nat} (h : ∀ b, b ≠ x → X b = Y b) (hx : X x = true) (hy : Y x = false) : ∀ n, x < n → sumB w X n = sumB w Y n + w x := by
  intro n
  induction n with
  | zero => intro h; omega
  | succ n ih =>
    intro hn
    unfold sumB
    by_cases q : x = n
    · subst q
      rw [sumB_congr x fun b hb => h b (by omega), hx, hy]
      simp
    · rw [ih (by omega), h n (Ne.symm q)]
      omega
theorem sumB_le {w : Nat → Nat} {X : BS} {B : Nat} : ∀ n, (∀ b, b < n → X b = true → w b ≤ B) → sumB w X n ≤ B * n := by
  intro n
  induction n with
  | zero => intro _; exact Nat.zero_le _
  | succ n ih =>
    intro h
    have := ih fun b hb => h b (by omega)
    have h2 := h n (by omega)
    unfold sumB
    rw [Nat.mul_succ]
    split
    · rename_i e; have := h2 e; omega
    · omega
theorem maxB_le {l : Nat → Nat} {X : BS} {B : Nat} : ∀ n, (∀ b, b < n → X b = true → l b ≤ B) → maxB l X n ≤ B := by
  intro n
  induction n with
  | zero => intro _; exact Nat.zero_le _
  | succ n ih =>
    intro h
    have := ih fun b hb => h b (by omega)
    have h2 := h n (by omega)
    unfold maxB
    split
    · rename_i e; have := h2 e; omega
    · omega
theorem maxB_ge {l : Nat → Nat} {X : BS} {x : Nat} (hx : X x = true) : ∀ n, x < n → l x ≤ maxB l X n := by
  intro n
  induction n with
  | zero => intro h; omega
  | succ n ih =>
    intro h
    unfold maxB
    by_cases q : x = n
    · subst q; rw [hx]; simp; omega
    · have := ih (by omega)
      split <;> omega
theorem maxB_top {l : Nat → Nat} {X : BS} {x : Nat} (hx : X x = true) (h10 : x < 10) (h : ∀ b, b < 10 → X b = true → l b ≤ l x) : maxB l X 10 = l x := by
  have := maxB_le (B := l x) 10 h
  have := maxB_ge (l := l) hx 10 h10
  omega
/-- the books of the places of a mask -/
def pls (P : Nat → Nat) (t : Nat) : BS := fun b => (List.range 10).any fun k => t.testBit k && (P k == b)
theorem pls_t {P : Nat → Nat} {t b : Nat} : pls P t b = true ↔ ∃ k, k < 10 ∧ t.testBit k = true ∧ P k = b := by
  unfold pls
  simp [List.any_eq_true]
theorem pls_0 (P : Nat → Nat) (b : Nat) : pls P 0 b = false := by
  cases e : pls P 0 b with
  | false => rfl
  | true =>
    obtain ⟨k, _, hk, _⟩ := pls_t.mp e
    simp at hk
/-- a mask of places from what is asked of them -/
def mkM (q : Nat → Bool) : Nat → Nat
  | 0 => 0
  | k + 1 => if q k then mkM q k ||| 2 ^ k else mkM q k
theorem mkM_lt (q : Nat → Bool) : ∀ n, mkM q n < 2 ^ n := by
  intro n
  induction n with
  | zero => exact Nat.zero_lt_one
  | succ n ih =>
    unfold mkM
    have h1 : 2 ^ n < 2 ^ (n + 1) := by rw [Nat.pow_succ]; have := Nat.pow_pos (n := n) (show 0 < 2 by omega); omega
    split
    · exact Nat.or_lt_two_pow (by omega) h1
    · omega
theorem mkM_bit (q : Nat → Bool) : ∀ n k, (mkM q n).testBit k = (decide (k < n) && q k) := by
  intro n
  induction n with
  | zero => intro k; simp [mkM]
  | succ n ih =>
    intro k
    unfold mkM
    by_cases c : k = n
    · subst c
      by_cases e : q k = true
      · rw [if_pos e, Nat.testBit_or, Nat.testBit_two_pow, e]; simp
      · rw [if_neg e, ih]; simp [Bool.eq_false_iff.mpr e]
    · have hd : decide (k < n + 1) = decide (k < n) := by
        apply decide_eq_decide.mpr; omega
      rw [hd]
      split
      · rw [Nat.testBit_or, Nat.testBit_two_pow, ih]; simp; intro h; exact absurd h.symm c
      · exact ih k
theorem bit_eq {a b : Nat} (h : ∀ k, a.testBit k = b.testBit k) : a = b := Nat.eq_of_testBit_eq h
