/-! 04: the small machine's worlds in the heap; one row an instruction that touches the heap -/
abbrev bkTys (dA : Nat → ClassId) : List (ClassId × FieldType) := [(dA 0, .int), (dA 1, .long), (dA 2, .char), (dA 3, .double), (dA 4, .object "BindingPlanner$Plan")]
def bkc (dA : Nat → ClassId) (e : bkE) : va_E := match e with
  | .inl q => .inr q
  | .inr (.inl q) => .inl (dA 0, q.1, .inl q.2)
  | .inr (.inr (.inl q)) => .inl (dA 1, q.1, .inr (.inl q.2))
  | .inr (.inr (.inr (.inl q))) => .inl (dA 2, q.1, .inl q.2)
  | .inr (.inr (.inr (.inr (.inl q)))) => .inl (dA 3, q.1, .inr (.inr (.inr (.inl q.2))))
  | .inr (.inr (.inr (.inr (.inr q)))) => .inl (dA 4, q.1, .inr (.inr (.inr (.inr q.2))))
abbrev bkA (G : bkG) : Nat → Prop := fun q => gB G ≤ q
/-- the heap holds the entries of h; where z is known, it is the heap's size -/
def bkH (G : bkG) (h : bkHS) (z : Option Nat) (H : Heap) : Prop :=
  (∀ a e, h a = some e → va_at (gD G) bkCl (a, bkc (gA G) e) H ∧ gB G ≤ a) ∧ ∀ q, z = some q → H.size = q
/-- an array that is only read -/
def bkRO (U : State) (H : Heap) (a n : Nat) (f : Nat → Int32) : Prop := ∃ cell : Cell, H[a]? = some cell ∧ U.isArrayOf cell .int ∧ cell.vm ≠ .unknown ∧ cell.slots.size = n ∧ ∀ j : Nat, j < n → cell.slots[j]? = some (.int (f j))
def bkFx (G : bkG) (U : State) : Prop :=
  va_K (gD G) bkCl (bkTys (gA G)) U ∧ vx_Zq Bundle.tN "UNASSIGNED_STACK" Bundle.steD (bkA G) U U.heap ∧ vx_Zq Bundle.tN "SUPPRESSED_SENTINEL" Bundle.listD (bkA G) U U.heap ∧
  (∀ q ∈ bkStr, ∃ sa, vk_R (bkRN q.1) q.2.1 q.2.2 sa U) ∧ (∀ w ∈ bkNw, va_Nw w U) ∧
  (∀ i, i < 5 → va_Z "BindingPlanner" (bkSn i) "[I" (.ref (gS G i)) (bkA G) U U.heap) ∧ (∀ a n f, gR G a = some (n, f) → bkRO U U.heap a n f ∧ a < gB G) ∧ (gl G).stackTraces = false ∧ (∀ q ∈ bkNcs, va_Nc (bkEx q.1) (bkEx q.2) U)
def bkS (G : bkG) (h : bkHS) (z : Option Nat) (U : State) : Prop := gB G ≤ U.heap.size ∧ bkFx G U ∧ bkH G h z U.heap
theorem bkNw_warm {w : Cond} (hw : bkNwK w = true) {s U : State} (hW : s.WarmedH U.vm) (h : va_Nw w s) : va_Nw w U := by
  cases w <;> first
    | exact absurd hw Bool.false_ne_true
    | exact va_Nw.warmD hW h
    | exact va_Nw.warmC hW h
    | exact va_Nw.warmM hW h
    | exact va_Nw.warmF hW h
    | (rename_i ty; cases ty <;> first | exact absurd hw Bool.false_ne_true | exact va_AO.moved hW.alike h)
theorem bkFx.warm {G : bkG} {s U : State} (hW : s.WarmedH U.vm) (hB : gB G ≤ s.heap.size) (hk : ∀ a : Nat, a < s.heap.size → ¬ bkA G a → U.heap[a]? = s.heap[a]?) (h : bkFx G s) : bkFx G U := by
  obtain ⟨h1, h2, h3, h4, h5, h6, h7, h8, h9⟩ := h
  refine ⟨va_K.moved hW.alike h1, (vx_Zq.moved hW.alike h2).kept hk, (vx_Zq.moved hW.alike h3).kept hk, fun q hq => ?_, fun w hw => bkNw_warm (List.mem_filter.mp hw).2 hW (h5 w hw), fun i hi => (va_Z.moved hW.alike (h6 i hi)).kept hk, fun a n f hf => ?_, h8, fun q hq => va_Nc.moved hW.alike (h9 q hq)⟩
  · obtain ⟨sa, hs⟩ := h4 q hq
    exact ⟨sa, vk_R.warm hW hs⟩
  · obtain ⟨⟨cell, c1, c2, c3, c4, c5⟩, hl⟩ := h7 a n f hf
    refine ⟨⟨cell, ?_, State.isArrayOf_alike hW.alike c2, c3, c4, c5⟩, hl⟩
    rw [hk a (by omega) (by show ¬ gB G ≤ a; omega)]
    exact c1
theorem bkH.get {G : bkG} {h : bkHS} {z : Option Nat} {H : Heap} (hH : bkH G h z H) {a : Nat} {e : bkE} (ha : h a = some e) : va_P (gD G) bkCl [(a, bkc (gA G) e)] H := by
  intro k q hq
  cases k with
  | zero => cases hq; exact (hH.1 a e ha).1
  | succ k => cases hq
theorem bkD1 {G : bkG} {a : Nat} {e : va_E} (ha : gB G ≤ a) : va_D (bkA G) [(a, e)] := by
  refine ⟨fun i j p q hp hq _ => ?_, fun k q hq => ?_⟩
  · cases i with
    | zero => cases j with
      | zero => rfl
      | succ j => cases hq
    | succ i => cases hp
  · cases k with
    | zero => cases hq; exact ha
    | succ k => cases hq
theorem bkH.put {G : bkG} {h : bkHS} {z : Option Nat} {H H1 : Heap} (hH : bkH G h z H) {a : Nat} {e0 e : bkE} (ha : h a = some e0) (hat : va_at (gD G) bkCl (a, bkc (gA G) e) H1) (hz : H1.size = H.size) (oq : ∀ q : Nat, q ≠ a → H1[q]? = H[q]?) : bkH G (wr h a e) z H1 := by
  refine ⟨fun b e1 hb => ?_, fun q hq => hz.trans (hH.2 q hq)⟩
  unfold wr at hb
  by_cases hba : b = a
  · subst hba
    rw [if_pos rfl] at hb
    cases hb
    exact ⟨hat, (hH.1 b e0 ha).2⟩
  · rw [if_neg hba] at hb
    exact ⟨(hH.1 b e1 hb).1.kept (oq b hba), (hH.1 b e1 hb).2⟩
theorem bkH.lt {G : bkG} {h : bkHS} {z : Option Nat} {H : Heap} (hH : bkH G h z H) {a : Nat} {e : bkE} (ha : h a = some e) : a < H.size := (hH.1 a e ha).1.lt
theorem bkH.new {G : bkG} {h : bkHS} {q : Nat} {H H1 : Heap} (hH : bkH G h (some q) H) (hB : gB G ≤ H.size) {e : bkE} (hat : va_at (gD G) bkCl (q, bkc (gA G) e) H1) (hz : H1.size = q + 1) (oq : ∀ x : Nat, x < q → H1[x]? = H[x]?) : bkH G (wr h q e) (some (q + 1)) H1 := by
  have hq : H.size = q := hH.2 q rfl
  refine ⟨fun b e1 hb => ?_, fun x hx => by cases hx; exact hz⟩
  unfold wr at hb
  by_cases hba : b = q
  · subst hba
    rw [if_pos rfl] at hb
    cases hb
    exact ⟨hat, by omega⟩
  · rw [if_neg hba] at hb
    have hl := hH.lt hb
    exact ⟨(hH.1 b e1 hb).1.kept (oq b (by omega)), (hH.1 b e1 hb).2⟩
theorem bkH.forget {G : bkG} {h : bkHS} {z : Option Nat} {H : Heap} (hH : bkH G h z H) : bkH G h none H := ⟨hH.1, fun q hq => by cases hq⟩
/-- the cells of arrays -/
theorem bk_atI {D : va_G} {dA : Nat → ClassId} {a : Nat} {q : Nat × (Nat → Int32)} {H : Heap} : va_at D bkCl (a, bkc dA (.inr (.inl q))) H ↔ H[a]? = some (arrV (dA 0) q.1 (fun j => .int (q.2 j))) := Iff.rfl
theorem bk_atL {D : va_G} {dA : Nat → ClassId} {a : Nat} {q : Nat × (Nat → Int64)} {H : Heap} : va_at D bkCl (a, bkc dA (.inr (.inr (.inl q)))) H ↔ H[a]? = some (arrV (dA 1) q.1 (fun j => .long (q.2 j))) := Iff.rfl
theorem bk_atC {D : va_G} {dA : Nat → ClassId} {a : Nat} {q : Nat × (Nat → Int32)} {H : Heap} : va_at D bkCl (a, bkc dA (.inr (.inr (.inr (.inl q))))) H ↔ H[a]? = some (arrV (dA 2) q.1 (fun j => .int (q.2 j))) := Iff.rfl
theorem bk_atD {D : va_G} {dA : Nat → ClassId} {a : Nat} {q : Nat × (Nat → UInt64)} {H : Heap} : va_at D bkCl (a, bkc dA (.inr (.inr (.inr (.inr (.inl q)))))) H ↔ H[a]? = some (arrV (dA 3) q.1 (fun j => .double (q.2 j))) := Iff.rfl
theorem bk_atQ {D : va_G} {dA : Nat → ClassId} {a : Nat} {q : Nat × (Nat → Option Nat)} {H : Heap} : va_at D bkCl (a, bkc dA (.inr (.inr (.inr (.inr (.inr q)))))) H ↔ H[a]? = some (arrV (dA 4) q.1 (fun j => va_rf (q.2 j))) := Iff.rfl
theorem bk_store {α : Type} (mk : α → Value) (c : ClassId) (n : Nat) (f : Nat → α) (k : Nat) (x : α) : (arrV c n (fun j => mk (f j))).setSlot k (mk x) = arrV c n (fun j => mk (va_up f k x j)) := by
  rw [arrV_store]
  congr 1
  funext j
  unfold updV va_up
  by_cases hj : j = k
  · rw [if_pos hj, if_pos hj]
  · rw [if_neg hj, if_neg hj]
theorem bk_cls {ci : Nat} {C : String} {T : u_T} {N : Nat} (h : bkCl[ci]? = some (C, T, N)) : (∀ w ∈ u_ws C T N, w ∈ lw_tbl ∧ goodWord w = true) ∧ (∀ k, k < N → parseFieldDescriptor (T k).2.2.1 = some (bkTy ci k)) ∧ (∀ a, a < N → ∀ b, b < N → a ≠ b → (T a).2.1 ≠ (T b).2.1) := by
  match ci, h with
  | 0, h => cases h; exact ⟨by decide +kernel, tyX0_ok, nmX0⟩
  | 1, h => cases h; exact ⟨by decide +kernel, tyX1_ok, nmX1⟩
  | 2, h => cases h; exact ⟨by decide +kernel, tyX2_ok, nmX2⟩
  | 3, h => cases h; exact ⟨by decide +kernel, tyX3_ok, nmX3⟩
  | 4, h => cases h; exact ⟨by decide +kernel, tyX4_ok, nmX4⟩
  | 5, h => cases h; exact ⟨by decide +kernel, tyX5_ok, nmX5⟩
  | 6, h => cases h; exact ⟨by decide +kernel, tyX6_ok, nmX6⟩
  | 7, h => cases h; exact ⟨by decide +kernel, tyX8_ok, nmX8⟩
  | 8, h => cases h; exact ⟨by decide +kernel, tyX9_ok, nmX9⟩
theorem bk_cls_ga {ci : Nat} {C : String} {T : u_T} {N : Nat} (h : bkCl[ci]? = some (C, T, N)) : ∀ w ∈ u_ws C T N, w ∈ ga := fun w hw => List.mem_filter.mpr ((bk_cls h).1 w hw)
/-- locals -/
def bkLs (ls : Array Slot) (maxL : Nat) (lv : List (Option Value)) : Prop := lv.length = maxL ∧ ls.size = maxL ∧ lv_wf ls ∧ ∀ (i : Nat) (v : Value), lv[i]? = some (some v) → ls[i]? = some (.val v)
def bkAll (lv : List (Option Value)) : List (Nat × Value) := (List.range lv.length).filterMap fun i => match lv[i]? with
  | some (some v) => some (i, v)
  | _ => none
theorem bkAll_mem {lv : List (Option Value)} {i : Nat} {v : Value} : (i, v) ∈ bkAll lv ↔ lv[i]? = some (some v) := by
  unfold bkAll
  rw [List.mem_filterMap]
  constructor
  · rintro ⟨j, -, hj⟩
    split at hj
    · cases hj; assumption
    · cases hj
  · intro h
    refine ⟨i, List.mem_range.mpr (List.getElem?_eq_some_iff.mp h).1, ?_⟩
    rw [h]
theorem bkLs.has {ls : Array Slot} {n : Nat} {lv : List (Option Value)} (h : bkLs ls n lv) : lv_has ls n (bkAll lv) := ⟨h.2.1, h.2.2.1, fun q hq => h.2.2.2 q.1 q.2 (bkAll_mem.mp hq)⟩
theorem kl_cat {o : Option Value} {v : Value} (h : kl o = some v) : o = some v ∧ ¬ v.category = 2 := by
  cases o with
  | none => cases h
  | some w => cases w <;> first
    | (cases h; exact ⟨rfl, by simp [Value.category]⟩)
    | cases h
theorem klA_len (lv : List (Option Value)) (i : Nat) : (klA lv i).length = lv.length := by
  unfold klA
  split
  · rfl
  · split
    · simp
    · rfl
theorem klA_get {lv : List (Option Value)} {i j : Nat} {v : Value} (h : (klA lv i)[j]? = some (some v)) : lv[j]? = some (some v) ∧ (j + 1 = i → ¬ v.category = 2) := by
  unfold klA at h
  split at h
  · exact ⟨h, fun h9 => by omega⟩
  · rename_i k
    split at h
    · rename_i o ho
      by_cases hjk : j = k
      · subst hjk
        rw [List.getElem?_set_self (List.getElem?_eq_some_iff.mp ho).1] at h
        obtain ⟨h1, h2⟩ := kl_cat (Option.some.inj h)
        exact ⟨by rw [ho, h1], fun _ => h2⟩
      · rw [List.getElem?_set_ne (Ne.symm hjk)] at h
        exact ⟨h, fun h9 => by omega⟩
    · rename_i hn
      refine ⟨h, fun h9 => ?_⟩
      have : j = k := by omega
      subst this
      rw [hn] at h
      cases h
theorem bkLs.sto {ls ls' : Array Slot} {n i : Nat} {lv : List (Option Value)} {v : Value} (h : bkLs ls n lv) (hi : i < lv.length) (h' : lv_has ls' n ((i, v) :: (bkAll lv).filter (fun q => !(q.1 == i) && !(q.1 + 1 == i && q.2.category == 2)))) : bkLs ls' n (sto lv i v) := by
  refine ⟨by show ((klA lv i).set i (some v)).length = n; rw [List.length_set, klA_len]; exact h.1, h'.1, h'.2.1, fun j w hj => ?_⟩
  have hj : ((klA lv i).set i (some v))[j]? = some (some w) := hj
  by_cases hji : j = i
  · subst hji
    rw [List.getElem?_set_self (by rw [klA_len]; exact hi)] at hj
    cases hj
    exact h'.2.2 (j, v) List.mem_cons_self
  · rw [List.getElem?_set_ne (Ne.symm hji)] at hj
    obtain ⟨h1, h2⟩ := klA_get hj
    refine h'.2.2 (j, w) (List.mem_cons_of_mem _ (List.mem_filter.mpr ⟨bkAll_mem.mpr h1, ?_⟩))
    by_cases h3 : j + 1 = i
    · have := h2 h3
      simp [hji, this]
    · simp [hji, h3]
theorem bkLs.sto2 {ls ls' : Array Slot} {n i : Nat} {lv : List (Option Value)} {v : Value} (h : bkLs ls n lv) (hi : i + 1 < lv.length) (h' : lv_has ls' n ((i, v) :: (bkAll lv).filter (fun q => !(q.1 == i) && (!(q.1 == i + 1) && !(q.1 + 1 == i && q.2.category == 2))))) : bkLs ls' n (sto2 lv i v) := by
  refine ⟨by show (((klA lv i).set i (some v)).set (i + 1) none).length = n; rw [List.length_set, List.length_set, klA_len]; exact h.1, h'.1, h'.2.1, fun j w hj => ?_⟩
  have hj : (((klA lv i).set i (some v)).set (i + 1) none)[j]? = some (some w) := hj
  by_cases hj1 : j = i + 1
  · subst hj1
    rw [List.getElem?_set_self (by rw [List.length_set, klA_len]; exact hi)] at hj
    cases hj
  · rw [List.getElem?_set_ne (Ne.symm hj1)] at hj
    by_cases hji : j = i
    · subst hji
      rw [List.getElem?_set_self (by rw [klA_len]; omega)] at hj
      cases hj
      exact h'.2.2 (j, v) List.mem_cons_self
    · rw [List.getElem?_set_ne (Ne.symm hji)] at hj
      obtain ⟨h1, h2⟩ := klA_get hj
      refine h'.2.2 (j, w) (List.mem_cons_of_mem _ (List.mem_filter.mpr ⟨bkAll_mem.mpr h1, ?_⟩))
      by_cases h3 : j + 1 = i
      · have := h2 h3
        simp [hji, hj1, this]
      · simp [hji, hj1, h3]
