/-! 80: what the Statement gives of the start, as the small machine wants it -/
section Start
variable {s : State} {b : Nat}
abbrev gFl : List Cond := flatC (Jvm.Cond.and given_1 narrow_1)
theorem st_inst : ∀ q ∈ bkCl, Cond.instantiable q.1 q.2.2 ∈ lw_tbl := by decide +kernel
theorem st_D (hts : ∀ w ∈ lw_tbl, w.before #[Value.ref b] s = true) : ∃ D : va_G, ∀ (c : Nat) (q : vw_C), bkCl[c]? = some q → u_Kn s q.1 q.2.1 q.2.2 (D.1 c) (D.2 c) := by
  have h : ∀ c : Nat, ∃ (cC : ClassId) (iS : Nat → Nat), ∀ q : vw_C, bkCl[c]? = some q → u_Kn s q.1 q.2.1 q.2.2 cC iS := by
    intro c
    by_cases hq : ∃ q, bkCl[c]? = some q
    · obtain ⟨⟨C, T, N⟩, hq⟩ := hq
      obtain ⟨cC, iS, h⟩ := u_known (ws := ga) (C := C) (T := T) (N := N) (n := N) (fun w hw => hts w (List.mem_filter.mp hw).1) (bk_cls_ga hq) (hts _ (st_inst _ (List.mem_of_getElem? hq)))
      exact ⟨cC, iS, fun q h' => by rw [hq] at h'; cases h'; exact h⟩
    · exact ⟨0, fun _ => 0, fun q h' => absurd ⟨q, h'⟩ hq⟩
  exact ⟨(fun c => (h c).choose, fun c => (h c).choose_spec.choose), fun c q hq => (h c).choose_spec.choose_spec q hq⟩
theorem st_A (hts : ∀ w ∈ lw_tbl, w.before #[Value.ref b] s = true) : ∃ A : Nat → ClassId, ∀ (k : Nat) (q : ClassId × FieldType), (bkTys A)[k]? = some q → ArrOfT s q.1 q.2 ∧ va_RA s q.1 q.2 := by
  obtain ⟨c0, k0, p0, a1, a2, a3⟩ := Cond.arrayClass_spec (args := #[Value.ref b]) (first := s) (o := none) (s := s) (idx := []) (type := .int) (hts _ (List.mem_filter.mp ga_arrI).1)
  obtain ⟨c1, k1, p1, b1, b2, b3⟩ := Cond.arrayClass_spec (args := #[Value.ref b]) (first := s) (o := none) (s := s) (idx := []) (type := .long) (hts _ (List.mem_filter.mp ga_arrL).1)
  obtain ⟨c2, k2, p2, d1, d2, d3⟩ := Cond.arrayClass_spec (args := #[Value.ref b]) (first := s) (o := none) (s := s) (idx := []) (type := .char) (hts _ (List.mem_filter.mp ga_arrC).1)
  obtain ⟨c3, k3, p3, e1, e2, e3⟩ := Cond.arrayClass_spec (args := #[Value.ref b]) (first := s) (o := none) (s := s) (idx := []) (type := .double) (hts _ (List.mem_filter.mp ga_arrD).1)
  obtain ⟨p4, c4, k4, f1, f0, f2, f3, f4⟩ := Cond.arrayOver_spec (args := #[Value.ref b]) (first := s) (o := none) (s := s) (idx := []) (n := "BindingPlanner$Plan") (hts _ (by decide +kernel))
  refine ⟨fun i => if i = 0 then c0 else if i = 1 then c1 else if i = 2 then c2 else if i = 3 then c3 else c4, fun k q hq => ?_⟩
  match k, hq with
  | 0, hq => cases hq; exact ⟨fun n z => ⟨fun k h => (by cases h), k0, a2, p0, a3⟩, a1⟩
  | 1, hq => cases hq; exact ⟨fun n z => ⟨fun k h => (by cases h), k1, b2, p1, b3⟩, b1⟩
  | 2, hq => cases hq; exact ⟨fun n z => ⟨fun k h => (by cases h), k2, d2, p2, d3⟩, d1⟩
  | 3, hq => cases hq; exact ⟨fun n z => ⟨fun k h => (by cases h), k3, e2, p3, e3⟩, e1⟩
  | 4, hq => cases hq; exact ⟨fun n z => ⟨fun k h => (by cases h), k4, f2, p4, f3⟩, k4, p4, f2, f3, f1, f4⟩
  | k + 5, hq => exact absurd hq (by simp)
def st_T (i : Nat) : Term := .static "BindingPlanner" (bkSn i) "[I"
def st_n (i : Nat) : Nat := if i < 2 then 4 else 5
def st_v (i : Nat) : Nat → Int32 := match i with
  | 0 => vt 80 60 5 1 0 | 1 => vt 400 300 80 50 0 | 2 => vt 0 4 8 1 300 | 3 => vt 6 12 25 4 1500 | _ => vt 3 8 15 2 1000
theorem st_w1 : ∀ i, i < 5 → Cond.arrayOf (st_T i) .int ∈ gFl := by decide +kernel
theorem st_w2 : ∀ i, i < 5 → Cond.eq (.length (st_T i)) (.int (Int32.ofNat (st_n i))) ∈ gFl := by decide +kernel
theorem st_w3 : ∀ i, i < 5 → ∀ j, j < st_n i → Cond.eq (.elem (st_T i) (.int (Int32.ofNat j))) (.int (st_v i j)) ∈ gFl := by decide +kernel
theorem st_w4 : ∀ i, i < 5 → Cond.laysStatic "BindingPlanner" (bkSn i) "[I" ∈ lw_tbl := by decide +kernel
theorem st_w5 : ∀ q ∈ bkStr, Cond.stringRef (bkRN q.1) q.2.1 q.2.2 ∈ lw_tbl := by decide +kernel
theorem st_w6 : ∀ q ∈ bkStr, Cond.exactly (.string (bkRN q.1) q.2.1) "java/lang/String" ∈ gFl := by decide +kernel
theorem st_w7 : ∀ q ∈ bkNcs, Cond.not (.castable (bkEx q.1) (bkEx q.2)) ∈ gFl := by decide +kernel
theorem st_arr (hgv : (Jvm.Cond.and given_1 narrow_1).before #[Value.ref b] s = true) {i : Nat} (hi : i < 5) : ∃ t : Nat, (st_T i).eval #[Value.ref b] s none [] s = some (.ref t) ∧ bkRO s s.heap t (st_n i) (st_v i) ∧ t < s.heap.size := by
  have hs := flat_of_before _ hgv
  have hn : st_n i < 2 ^ 31 := by unfold st_n; split <;> omega
  have hlen := va_eqt (hs _ (st_w2 i hi))
  obtain ⟨t, cell, ht, hat, hv⟩ := Term.length_spec hlen
  obtain ⟨hcell, hkn, -, -⟩ := State.arrayAt?_spec hat
  have hsz : cell.slots.size < 2 ^ 31 := by
    simp only [Term.eval, ht, hat, Option.bind_eq_bind, Option.bind_some] at hlen
    by_cases hlt : cell.slots.size < 2147483648
    · exact hlt
    · simp [hlt] at hlen
  obtain ⟨hof, -⟩ := Cond.arrayOf_spec (hs _ (st_w1 i hi)) ht hcell
  have he : cell.slots.size = st_n i := by
    have e1 : nI (st_n i) = nI cell.slots.size := Value.int.inj hv
    exact ((mI_inj (by omega) (by omega)).mp e1).symm
  refine ⟨t, ht, ⟨cell, hcell, hof, hkn, he, fun j hj => ?_⟩, (Array.getElem?_eq_some_iff.mp hcell).1⟩
  obtain ⟨a, j2, cell2, h1, h2, h3, h4, h5⟩ := Term.elem_spec (va_eqt (hs _ (st_w3 i hi j hj)))
  cases ht.symm.trans h1
  cases hat.symm.trans h3
  have hj2 : j2 = Int32.ofNat j := by
    have e : (Term.int (Int32.ofNat j)).eval #[Value.ref b] s none [] s = some (.int (Int32.ofNat j)) := rfl
    cases h2.symm.trans e
    rfl
  have hc : j2.toNatClampNeg = j := by rw [hj2]; exact Int32.toNatClampNeg_ofNat_of_lt (Nat.lt_trans hj hn)
  rw [hc] at h5
  exact h5
theorem st_v0 {i j : Nat} (hi : i < 5) (hj : j < 5) (h : st_v i 0 = st_v j 0) : i = j := by
  revert h
  revert i
  revert j
  decide
theorem st_apart {i j t : Nat} (hi : i < 5) (hj : j < 5) (h1 : bkRO s s.heap t (st_n i) (st_v i)) (h2 : bkRO s s.heap t (st_n j) (st_v j)) : i = j := by
  obtain ⟨c1, a1, -, -, -, a5⟩ := h1
  obtain ⟨c2, b1, -, -, -, b5⟩ := h2
  cases a1.symm.trans b1
  have n1 : 0 < st_n i := by unfold st_n; split <;> omega
  have n2 : 0 < st_n j := by unfold st_n; split <;> omega
  exact st_v0 hi hj (Value.int.inj (Option.some.inj ((a5 0 n1).symm.trans (b5 0 n2))))
/-- the arrays that are only read -/
def st_R (t : Nat → Nat) (b L : Nat) (xs : Nat → Int32) (a : Nat) : Option (Nat × (Nat → Int32)) := if a = t 0 then some (st_n 0, st_v 0) else if a = t 1 then some (st_n 1, st_v 1) else if a = t 2 then some (st_n 2, st_v 2) else if a = t 3 then some (st_n 3, st_v 3) else if a = t 4 then some (st_n 4, st_v 4) else if a = b then some (L, xs) else none
theorem st_Rro {t : Nat → Nat} {L : Nat} {xs : Nat → Int32} (hT : ∀ i, i < 5 → bkRO s s.heap (t i) (st_n i) (st_v i) ∧ t i < s.heap.size) (hX : va_X b L xs s s.heap) (hb : b < s.heap.size) : ∀ a n f, st_R t b L xs a = some (n, f) → bkRO s s.heap a n f ∧ a < s.heap.size := by
  intro a n f h
  unfold st_R at h
  split at h
  · rename_i e; cases h; rw [e]; exact hT 0 (by omega)
  split at h
  · rename_i e; cases h; rw [e]; exact hT 1 (by omega)
  split at h
  · rename_i e; cases h; rw [e]; exact hT 2 (by omega)
  split at h
  · rename_i e; cases h; rw [e]; exact hT 3 (by omega)
  split at h
  · rename_i e; cases h; rw [e]; exact hT 4 (by omega)
  split at h
  · rename_i e; cases h; rw [e]; exact ⟨hX, hb⟩
  · cases h
theorem st_Rt {t : Nat → Nat} {L : Nat} {xs : Nat → Int32} (hd : ∀ i j, i < 5 → j < 5 → t i = t j → i = j) : st_R t b L xs (t 0) = some (st_n 0, st_v 0) ∧ st_R t b L xs (t 1) = some (st_n 1, st_v 1) ∧ st_R t b L xs (t 2) = some (st_n 2, st_v 2) ∧ st_R t b L xs (t 3) = some (st_n 3, st_v 3) ∧ st_R t b L xs (t 4) = some (st_n 4, st_v 4) := by
  have d : ∀ i j, i < 5 → j < 5 → i ≠ j → ¬ t i = t j := fun i j hi hj h e => h (hd i j hi hj e)
  unfold st_R
  refine ⟨if_pos rfl, ?_, ?_, ?_, ?_⟩
  · rw [if_neg (d 1 0 (by omega) (by omega) (by omega)), if_pos rfl]
  · rw [if_neg (d 2 0 (by omega) (by omega) (by omega)), if_neg (d 2 1 (by omega) (by omega) (by omega)), if_pos rfl]
  · rw [if_neg (d 3 0 (by omega) (by omega) (by omega)), if_neg (d 3 1 (by omega) (by omega) (by omega)), if_neg (d 3 2 (by omega) (by omega) (by omega)), if_pos rfl]
  · rw [if_neg (d 4 0 (by omega) (by omega) (by omega)), if_neg (d 4 1 (by omega) (by omega) (by omega)), if_neg (d 4 2 (by omega) (by omega) (by omega)), if_neg (d 4 3 (by omega) (by omega) (by omega)), if_pos rfl]
theorem st_Rb (t : Nat → Nat) (b : Nat) {L : Nat} (xs : Nat → Int32) (hL : L ≤ 2560) : ∃ L' xs', st_R t b L xs b = some (L', xs') ∧ L' ≤ 2560 := by
  have hn : ∀ i, st_n i ≤ 2560 := fun i => by unfold st_n; split <;> omega
  unfold st_R
  split
  · exact ⟨_, _, rfl, hn _⟩
  split
  · exact ⟨_, _, rfl, hn _⟩
  split
  · exact ⟨_, _, rfl, hn _⟩
  split
  · exact ⟨_, _, rfl, hn _⟩
  split
  · exact ⟨_, _, rfl, hn _⟩
  · rw [if_pos rfl]; exact ⟨_, _, rfl, hL⟩
theorem st_nw (hts : ∀ w ∈ lw_tbl, w.before #[Value.ref b] s = true) : ∀ w ∈ bkNw, va_Nw w s := by
  intro w hw
  obtain ⟨h1, h2⟩ := List.mem_filter.mp hw
  have h3 := hts w h1
  cases w <;> first
    | exact absurd h2 Bool.false_ne_true
    | exact va_Nw.of rfl h3
    | (rename_i ty; cases ty <;> first | exact absurd h2 Bool.false_ne_true | exact h3)
theorem st_str (hts : ∀ w ∈ lw_tbl, w.before #[Value.ref b] s = true) (hgv : (Jvm.Cond.and given_1 narrow_1).before #[Value.ref b] s = true) : ∀ q ∈ bkStr, ∃ sa, vk_R (bkRN q.1) q.2.1 q.2.2 sa s := by
  intro q hq
  obtain ⟨a, c, cA, kA, q1, -⟩ := Cond.exactly_spec (args := #[Value.ref b]) (first := s) (o := none) (s := s) (idx := []) (flat_of_before _ hgv _ (st_w6 q hq))
  exact ⟨a, vk_R.of (hts _ (st_w5 q hq)) q1⟩
theorem st_Fx {l : Launch} (hflags : l.flags = flags0) {L : Nat} {xs : Nat → Int32} (hL : L ≤ 2560) (hts : ∀ w ∈ lw_tbl, w.before #[Value.ref b] s = true) (hX : va_X b L xs s s.heap) (hb : b < s.heap.size) (hgv : (Jvm.Cond.and given_1 narrow_1).before #[Value.ref b] s = true) :
    ∃ (G : bkG) (L' : Nat) (xs' : Nat → Int32), gl G = l ∧ gB G = s.heap.size ∧ bkFx G s ∧ GF G ∧ gR G b = some (L', xs') ∧ L' ≤ 2560 := by
  have hs := flat_of_before _ hgv
  obtain ⟨D, hD⟩ := st_D hts
  obtain ⟨A, hA⟩ := st_A hts
  obtain ⟨t, ht⟩ : ∃ t : Nat → Nat, ∀ i, i < 5 → (st_T i).eval #[Value.ref b] s none [] s = some (.ref (t i)) ∧ bkRO s s.heap (t i) (st_n i) (st_v i) ∧ t i < s.heap.size := ⟨fun i => if hi : i < 5 then (st_arr hgv hi).choose else 0, fun i hi => by
    show (st_T i).eval #[Value.ref b] s none [] s = some (.ref (if hi : i < 5 then (st_arr hgv hi).choose else 0)) ∧ bkRO s s.heap (if hi : i < 5 then (st_arr hgv hi).choose else 0) (st_n i) (st_v i) ∧ (if hi : i < 5 then (st_arr hgv hi).choose else 0) < s.heap.size
    rw [dif_pos hi]
    exact (st_arr hgv hi).choose_spec⟩
  obtain ⟨L', xs', hR, hL'⟩ := st_Rb t b xs hL
  have hd : ∀ i j, i < 5 → j < 5 → t i = t j → i = j := fun i j hi hj e => st_apart hi hj (ht i hi).2.1 (e ▸ (ht j hj).2.1)
  have hT := st_Rt (b := b) (L := L) (xs := xs) hd
  have hA0 : ∀ a : Nat, a < s.heap.size → ¬ s.heap.size ≤ a := fun a h => Nat.not_le.mpr h
  refine ⟨(l, D, A, s.heap.size, t, st_R t b L xs), L', xs', rfl, rfl, ⟨⟨hD, hA⟩, ?_, ?_, st_str hts hgv, st_nw hts, fun i hi => ?_, st_Rro (fun i hi => (ht i hi).2) hX hb, ?_, fun q hq => va_Nc.of (hs _ (st_w7 q hq))⟩, ⟨fun i hi => (ht i hi).2.2, hT.1, hT.2.1, hT.2.2.1, hT.2.2.2.1, hT.2.2.2.2⟩, hR, hL'⟩
  · exact vx_Zqof (hts _ (by decide +kernel)) (hts _ (by decide +kernel)) (hs _ (by decide +kernel)) hA0
  · exact vx_Zqof (hts _ (by decide +kernel)) (hts _ (by decide +kernel)) (hs _ (by decide +kernel)) hA0
  · exact va_Zref (hts _ (st_w4 i hi)) (hts _ (by decide +kernel)) (ht i hi).1 hA0
  · show (!l.flags.contains noTraceFlag) = false
    rw [hflags]
    decide +kernel
end Start
