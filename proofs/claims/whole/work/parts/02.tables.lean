/-! 02: types of the small machine; the methods' records; links; the words behind them (by gen02.py) -/
abbrev bkE : Type := (Nat × List Value) ⊕ ((Nat × (Nat → Int32)) ⊕ ((Nat × (Nat → Int64)) ⊕ ((Nat × (Nat → Int32)) ⊕ ((Nat × (Nat → UInt64)) ⊕ (Nat × (Nat → Option Nat))))))
abbrev bkHS : Type := Nat → Option bkE
abbrev bkRes : Type := Option Value ⊕ Nat
/-- a method: name, bytes, locals, answer's type, number of its class, level, cells, slots, number of arguments with the receiver, handlers -/
abbrev bkM : Type := MethodName × ByteArray × Nat × Option FieldType × Nat × Nat × Nat × Nat × Nat × List (Nat × Nat × Nat × Nat)
abbrev mY (M : bkM) : MethodName := M.1
abbrev mB (M : bkM) : ByteArray := M.2.1
abbrev mL (M : bkM) : Nat := M.2.2.1
abbrev mR (M : bkM) : Option FieldType := M.2.2.2.1
abbrev mO (M : bkM) : Nat := M.2.2.2.2.1
abbrev mV (M : bkM) : Nat := M.2.2.2.2.2.1
abbrev mC (M : bkM) : Nat := M.2.2.2.2.2.2.1
abbrev mS (M : bkM) : Nat := M.2.2.2.2.2.2.2.1
abbrev mN (M : bkM) : Nat := M.2.2.2.2.2.2.2.2.1
abbrev mH (M : bkM) : List (Nat × Nat × Nat × Nat) := M.2.2.2.2.2.2.2.2.2
/-- what an entry of a constant pool links: a field (class, place) | a static array | a class | an exception (which, its constructor's entry) | a method | a built-in | a constant -/
abbrev bkL : Type := (Nat × Nat) ⊕ (Nat ⊕ (Nat ⊕ ((Nat × Nat) ⊕ (bkM ⊕ (Nat ⊕ Value)))))
abbrev kF (ci k : Nat) : bkL := .inl (ci, k)
abbrev kS (i : Nat) : bkL := .inr (.inl i)
abbrev kC (ci : Nat) : bkL := .inr (.inr (.inl ci))
abbrev kX (e ic : Nat) : bkL := .inr (.inr (.inr (.inl (e, ic))))
abbrev kM (M : bkM) : bkL := .inr (.inr (.inr (.inr (.inl M))))
abbrev kB (b : Nat) : bkL := .inr (.inr (.inr (.inr (.inr (.inl b)))))
abbrev kV (v : Value) : bkL := .inr (.inr (.inr (.inr (.inr (.inr v)))))
def bkCl : List vw_C := [(RX0, TX0, 5), (RX1, TX1, 11), (RX2, TX2, 3), (RX3, TX3, 4), (RX4, TX4, 2), (RX5, TX5, 11), (RX6, TX6, 4), (RX8, TX8, 8), (RX9, TX9, 19)]
def bkTy (ci : Nat) : Nat → FieldType := match ci with
  | 0 => tyX0 | 1 => tyX1 | 2 => tyX2 | 3 => tyX3 | 4 => tyX4 | 5 => tyX5 | 6 => tyX6 | 7 => tyX8 | _ => tyX9
def bkRN (o : Nat) : String := match o with
  | 0 => RX0 | 1 => RX1 | 2 => RX2 | 3 => RX3 | 4 => RX4 | 5 => RX5 | 6 => RX6 | 7 => RX7 | 8 => RX8 | 9 => RX9 | 10 => RL | _ => RJ6
def bkEx (e : Nat) : String := match e with
  | 0 => "java/lang/IndexOutOfBoundsException" | 1 => "java/lang/IllegalArgumentException" | 2 => "java/lang/IllegalStateException" | 3 => "java/lang/UnsupportedOperationException" | 4 => "java/util/NoSuchElementException" | _ => "java/lang/ArithmeticException"
def bkSn (i : Nat) : String := match i with
  | 0 => "BLOCK_LOW" | 1 => "BLOCK_HIGH" | 2 => "SETTING_LOW" | 3 => "SETTING_HIGH" | _ => "SETTING_FIRST"
abbrev bkXs : List String := ["java/lang/RuntimeException", "java/lang/Exception"]
def ga : List Cond := lw_tbl.filter goodWord
theorem ga_c0 {w : Cond} (i : Nat) (h : (k2_sels lw_privs)[i]? = some w) (g : goodWord w = true) : w ∈ ga := List.mem_filter.mpr ⟨List.mem_append_left _ (List.mem_of_getElem? h), g⟩
theorem ga_c1 {w : Cond} (i : Nat) (h : tables_1_1[i]? = some w) (g : goodWord w = true) : w ∈ ga := List.mem_filter.mpr ⟨List.mem_append_right _ (List.mem_append_left _ (List.mem_of_getElem? h)), g⟩
theorem ga_c2 {w : Cond} (i : Nat) (h : tables_1_2[i]? = some w) (g : goodWord w = true) : w ∈ ga := List.mem_filter.mpr ⟨List.mem_append_right _ (List.mem_append_right _ (List.mem_append_left _ (List.mem_of_getElem? h))), g⟩
theorem ga_c3 {w : Cond} (i : Nat) (h : tables_1_3[i]? = some w) (g : goodWord w = true) : w ∈ ga := List.mem_filter.mpr ⟨List.mem_append_right _ (List.mem_append_right _ (List.mem_append_right _ (List.mem_append_left _ (List.mem_of_getElem? h)))), g⟩
theorem ga_c4 {w : Cond} (i : Nat) (h : tables_1_4[i]? = some w) (g : goodWord w = true) : w ∈ ga := List.mem_filter.mpr ⟨List.mem_append_right _ (List.mem_append_right _ (List.mem_append_right _ (List.mem_append_right _ (List.mem_append_left _ (List.mem_of_getElem? h))))), g⟩
theorem ga_c5 {w : Cond} (i : Nat) (h : tables_1_5[i]? = some w) (g : goodWord w = true) : w ∈ ga := List.mem_filter.mpr ⟨List.mem_append_right _ (List.mem_append_right _ (List.mem_append_right _ (List.mem_append_right _ (List.mem_append_right _ (List.mem_append_left _ (List.mem_of_getElem? h)))))), g⟩
theorem ga_c6 {w : Cond} (i : Nat) (h : tables_1_6[i]? = some w) (g : goodWord w = true) : w ∈ ga := List.mem_filter.mpr ⟨List.mem_append_right _ (List.mem_append_right _ (List.mem_append_right _ (List.mem_append_right _ (List.mem_append_right _ (List.mem_append_right _ (List.mem_of_getElem? h)))))), g⟩
/-- the words that are not good, carried by themselves: 'declares', 'castable', links within the nest -/
def bkNwK (w : Cond) : Bool := match w with
  | .declares _ => true
  | .castable _ _ => true
  | .methodLinkNest _ _ _ _ => true
  | .fieldLinkNest _ _ _ _ _ _ => true
  | .arrayOver (.object _) => true
  | _ => false
def bkNw : List Cond := lw_tbl.filter bkNwK
theorem nw_c1 {w : Cond} (i : Nat) (h : tables_1_1[i]? = some w) (g : bkNwK w = true) : w ∈ bkNw := List.mem_filter.mpr ⟨List.mem_append_right _ (List.mem_append_left _ (List.mem_of_getElem? h)), g⟩
theorem nw_c2 {w : Cond} (i : Nat) (h : tables_1_2[i]? = some w) (g : bkNwK w = true) : w ∈ bkNw := List.mem_filter.mpr ⟨List.mem_append_right _ (List.mem_append_right _ (List.mem_append_left _ (List.mem_of_getElem? h))), g⟩
theorem nw_c3 {w : Cond} (i : Nat) (h : tables_1_3[i]? = some w) (g : bkNwK w = true) : w ∈ bkNw := List.mem_filter.mpr ⟨List.mem_append_right _ (List.mem_append_right _ (List.mem_append_right _ (List.mem_append_left _ (List.mem_of_getElem? h)))), g⟩
theorem nw_c4 {w : Cond} (i : Nat) (h : tables_1_4[i]? = some w) (g : bkNwK w = true) : w ∈ bkNw := List.mem_filter.mpr ⟨List.mem_append_right _ (List.mem_append_right _ (List.mem_append_right _ (List.mem_append_right _ (List.mem_append_left _ (List.mem_of_getElem? h))))), g⟩
theorem nw_c5 {w : Cond} (i : Nat) (h : tables_1_5[i]? = some w) (g : bkNwK w = true) : w ∈ bkNw := List.mem_filter.mpr ⟨List.mem_append_right _ (List.mem_append_right _ (List.mem_append_right _ (List.mem_append_right _ (List.mem_append_right _ (List.mem_append_left _ (List.mem_of_getElem? h)))))), g⟩
theorem nw_c6 {w : Cond} (i : Nat) (h : tables_1_6[i]? = some w) (g : bkNwK w = true) : w ∈ bkNw := List.mem_filter.mpr ⟨List.mem_append_right _ (List.mem_append_right _ (List.mem_append_right _ (List.mem_append_right _ (List.mem_append_right _ (List.mem_append_right _ (List.mem_of_getElem? h)))))), g⟩
/-- a method's own words, good ones all -/
def bkWc (M : bkM) : Cond := match mH M with
  | [] => .code (mY M) (mB M) (mL M) (mR M)
  | hh => .codeWith (mY M) (mB M) (mL M) (mR M) hh
def MethOK (M : bkM) : Prop := bkWc M ∈ ga ∧ Cond.initialized (mY M).cls ∈ ga ∧ (mY M).cls = bkRN (mO M) ∧ ((mY M).cls ≠ "java/lang/invoke/MethodHandle" ∧ (mY M).cls ≠ "java/lang/invoke/VarHandle") ∧ plainName (mY M).cls = true
/-- what a throw of a new exception with a text asks of the tables; NoSuchElementException's constructor links its super by another entry of its pool than the kit's own rows have it -/
def bkAt (own : String) (ic e : Nat) : List Cond := match e with
  | 4 => (Bundle.ownAtoms own ic (bkEx 4) bkXs).filter (fun w => vx_no w && decide (w ≠ .code (Bundle.initS (bkEx 4)) Bundle.six 2 none) && decide (w ≠ .methodLink (bkEx 4) 7 (Bundle.initS "java/lang/RuntimeException"))) ++ Bundle.passSAtoms (bkEx 4) "java/lang/RuntimeException" 13 prog_26_method_4_code
  | e => vx_atS own ic (bkEx e) bkXs
def LinkOK (o idx : Nat) (e : bkL) : Prop := match e with
  | .inl (ci, k) => ∃ (C : String) (T : u_T) (N : Nat), bkCl[ci]? = some (C, T, N) ∧ k < N ∧ Cond.fieldLink (bkRN o) idx (T k).1 (T k).2.1 (T k).2.2.1 ∈ ga
  | .inr (.inl i) => i < 5 ∧ (Cond.fieldLink (bkRN o) idx "BindingPlanner" (bkSn i) "[I" ∈ ga ∨ Cond.fieldLinkNest (bkRN o) idx "BindingPlanner" (bkSn i) "[I" "BindingPlanner" ∈ bkNw)
  | .inr (.inr (.inl ci)) => ∃ (C : String) (T : u_T) (N : Nat), bkCl[ci]? = some (C, T, N) ∧ Cond.classLink (bkRN o) idx C ∈ ga ∧ Cond.instantiable C N ∈ ga ∧ Cond.initialized C ∈ ga
  | .inr (.inr (.inr (.inl (e, ic)))) => Cond.classLink (bkRN o) idx (bkEx e) ∈ ga ∧ e < 6 ∧ Cond.castable (bkEx e) (bkEx e) ∈ bkNw ∧ (ic ≠ 0 → Cond.initialized (bkEx e) ∈ ga ∧ Bundle.fit (bkEx e) = true ∧ (bkAt (bkRN o) ic e).all (fun w => (goodWord w && decide (w ∈ lw_tbl)) || ((bkNwK w && w.onTables) && decide (w ∈ lw_tbl))) = true)
  | .inr (.inr (.inr (.inr (.inl M)))) => MethOK M ∧ ((Cond.methodLink (bkRN o) idx (mY M) ∈ ga ∧ Cond.static (mY M) ∈ ga ∧ (parseMethodDescriptor (mY M).desc).map (fun d => d.parameters.length) = some (mN M)) ∨
      (Cond.instanceMethod (mY M) ∈ ga ∧ (parseMethodDescriptor (mY M).desc).map (fun d => d.parameters.length + 1) = some (mN M) ∧
        ((Cond.methodLink (bkRN o) idx (mY M) ∈ ga ∧ Cond.selects (mY M).cls (mY M) (mY M) ∈ ga ∧ (mY M).name ≠ "<init>") ∨ ((mY M).name = "<init>" ∧ mR M = none ∧ mH M = [] ∧ (Cond.methodLink (bkRN o) idx (mY M) ∈ ga ∨ Cond.methodLinkNest (bkRN o) idx (mY M) "BindingPlanner" ∈ bkNw)))))
  | .inr (.inr (.inr (.inr (.inr (.inl b))))) => match b with
    | 0 => Cond.methodLink (bkRN o) idx Lib.Math.max.name ∈ ga
    | 1 => Cond.methodLink (bkRN o) idx Lib.Math.min.name ∈ ga
    | 2 => Cond.methodLink (bkRN o) idx arraycopyName ∈ ga
    | 3 => Cond.methodLink (bkRN o) idx Lib.objectInit ∈ ga
    | _ => Cond.classLink (bkRN o) idx "BindingPlanner$Plan" ∈ ga
  | .inr (.inr (.inr (.inr (.inr (.inr v))))) => match v with
    | .int x => Cond.constant (bkRN o) idx x ∈ ga
    | .long x => Cond.constantLong (bkRN o) idx x ∈ ga
    | _ => False
def gX0_init : bkM := (yX0_init, cX0_init, 1, none, 0, 0, 2, 44, 1, [])
def gX0_isDigitAt : bkM := (yX0_isDigitAt, cX0_isDigitAt, 2, (some .boolean), 0, 0, 0, 0, 2, [])
def gX0_put : bkM := (yX0_put, cX0_put, 2, none, 0, 0, 0, 0, 2, [])
def gX0_readAndEmpty : bkM := (yX0_readAndEmpty, cX0_readAndEmpty, 2, (some .boolean), 0, 3, 0, 0, 1, [])
def gX0_readBlock : bkM := (yX0_readBlock, cX0_readBlock, 1, (some .boolean), 0, 2, 0, 0, 1, [])
def gX0_readCopies : bkM := (yX0_readCopies, cX0_readCopies, 1, (some .boolean), 0, 2, 0, 0, 1, [])
def gX0_readNumber : bkM := (yX0_readNumber, cX0_readNumber, 5, (some .boolean), 0, 1, 0, 0, 3, [])
def gX0_readSign : bkM := (yX0_readSign, cX0_readSign, 2, (some .boolean), 0, 0, 0, 0, 2, [])
def gX1_init : bkM := (yX1_init, cX1_init, 1, none, 1, 0, 7, 2098, 1, [])
def gX1_clothArea : bkM := (yX1_clothArea, cX1_clothArea, 4, (some .long), 1, 0, 0, 0, 1, [])
def gX1_firstStripWith : bkM := (yX1_firstStripWith, cX1_firstStripWith, 3, (some .int), 1, 0, 0, 0, 2, [])
def gX1_fit : bkM := (yX1_fit, cX1_fit, 3, none, 1, 1, 0, 0, 1, [])
def gX1_lay : bkM := (yX1_lay, cX1_lay, 4, none, 1, 2, 0, 0, 3, [])
def gX1_layCloth : bkM := (yX1_layCloth, cX1_layCloth, 5, none, 1, 0, 0, 0, 4, [])
def gX1_leastLength : bkM := (yX1_leastLength, cX1_leastLength, 3, (some .int), 1, 3, 0, 0, 1, [])
def gX1_leastLengthOf : bkM := (yX1_leastLengthOf, cX1_leastLengthOf, 8, (some .int), 1, 2, 0, 0, 2, [])
def gX1_longestOf : bkM := (yX1_longestOf, cX1_longestOf, 2, (some .int), 1, 1, 0, 0, 1, [])
def gX1_stripOfBook : bkM := (yX1_stripOfBook, cX1_stripOfBook, 3, (some .int), 1, 0, 0, 0, 2, [])
def gX2_init : bkM := (yX2_init, cX2_init, 2, none, 2, 2, 105, 1792, 1, [])
def gX2_bringBack : bkM := (yX2_bringBack, cX2_bringBack, 2, none, 2, 2, 0, 0, 2, [])
def gX2_forget : bkM := (yX2_forget, cX2_forget, 1, none, 2, 0, 0, 0, 1, [])
def gX2_keep : bkM := (yX2_keep, cX2_keep, 2, none, 2, 2, 0, 0, 2, [])
def gX3_init : bkM := (yX3_init, cX3_init, 1, none, 3, 0, 3, 90, 1, [])
def gX3_copyFrom : bkM := (yX3_copyFrom, cX3_copyFrom, 2, none, 3, 0, 0, 0, 2, [])
def gX3_countOf : bkM := (yX3_countOf, cX3_countOf, 4, (some .int), 3, 0, 0, 0, 2, [])
def gX3_dropEmptyLots : bkM := (yX3_dropEmptyLots, cX3_dropEmptyLots, 3, none, 3, 0, 0, 0, 1, [])
def gX3_put : bkM := (yX3_put, cX3_put, 4, none, 3, 0, 0, 0, 4, [])
def gX3_slotOf : bkM := (yX3_slotOf, cX3_slotOf, 5, (some .int), 3, 0, 0, 0, 3, [])
def gX3_take : bkM := (yX3_take, cX3_take, 7, (some .int), 3, 1, 0, 0, 3, [])
def gX3_unitsOf : bkM := (yX3_unitsOf, cX3_unitsOf, 4, (some .int), 3, 0, 0, 0, 2, [])
def gX3_worth : bkM := (yX3_worth, cX3_worth, 4, (some .long), 3, 0, 0, 0, 1, [])
def gX4_init : bkM := (yX4_init, cX4_init, 1, none, 4, 0, 2, 100, 1, [])
def gX4_changedPieces : bkM := (yX4_changedPieces, cX4_changedPieces, 5, (some .int), 4, 2, 0, 0, 3, [])
def gX4_note : bkM := (yX4_note, cX4_note, 4, none, 4, 2, 0, 0, 2, [])
def gX5_init : bkM := (yX5_init, cX5_init, 2, none, 5, 1, 12, 212, 1, [])
def gX5_blockNumber : bkM := (yX5_blockNumber, cX5_blockNumber, 4, (some .int), 5, 0, 0, 0, 3, [])
def gX5_boardUnitsFor : bkM := (yX5_boardUnitsFor, cX5_boardUnitsFor, 5, (some .int), 5, 3, 0, 0, 2, [])
def gX5_clothUnitsFor : bkM := (yX5_clothUnitsFor, cX5_clothUnitsFor, 3, (some .int), 5, 3, 0, 0, 2, [])
def gX5_copyFrom : bkM := (yX5_copyFrom, cX5_copyFrom, 2, none, 5, 1, 0, 0, 2, [])
def gX5_isClothTooBroad : bkM := (yX5_isClothTooBroad, cX5_isClothTooBroad, 2, (some .boolean), 5, 2, 0, 0, 2, [])
def gX5_pieceBreadth : bkM := (yX5_pieceBreadth, cX5_pieceBreadth, 6, (some .int), 5, 1, 0, 0, 3, [])
def gX5_pieceLength : bkM := (yX5_pieceLength, cX5_pieceLength, 5, (some .int), 5, 1, 0, 0, 3, [])
def gX5_putBlockNumber : bkM := (yX5_putBlockNumber, cX5_putBlockNumber, 4, none, 5, 0, 0, 0, 4, [])
def gX5_putBook : bkM := (yX5_putBook, cX5_putBook, 6, (some .int), 5, 1, 0, 0, 5, [])
def gX5_putSheet : bkM := (yX5_putSheet, cX5_putSheet, 5, none, 5, 0, 0, 0, 5, [])
def gX5_reasonAgainst : bkM := (yX5_reasonAgainst, cX5_reasonAgainst, 3, (some .int), 5, 5, 0, 0, 2, [])
def gX5_sheetNumber : bkM := (yX5_sheetNumber, cX5_sheetNumber, 4, (some .int), 5, 0, 0, 0, 3, [])
def gX5_sheetsFor : bkM := (yX5_sheetsFor, cX5_sheetsFor, 3, (some .int), 5, 0, 0, 0, 3, [])
def gX5_unitsFor : bkM := (yX5_unitsFor, cX5_unitsFor, 3, (some .int), 5, 4, 0, 0, 3, [])
def gX5_useUnitsFor : bkM := (yX5_useUnitsFor, cX5_useUnitsFor, 5, (some .int), 5, 5, 0, 0, 2, [])
def gX5_yieldFor : bkM := (yX5_yieldFor, cX5_yieldFor, 10, (some .int), 5, 2, 0, 0, 3, [])
def gX6_init : bkM := (yX6_init, cX6_init, 1, none, 6, 0, 3, 60, 1, [])
def gX6_copyFrom : bkM := (yX6_copyFrom, cX6_copyFrom, 2, none, 6, 0, 0, 0, 2, [])
def gX6_listPrice : bkM := (yX6_listPrice, cX6_listPrice, 6, (some .int), 6, 0, 0, 0, 3, [])
def gX6_put : bkM := (yX6_put, cX6_put, 5, none, 6, 1, 0, 0, 4, [])
def gX6_remove : bkM := (yX6_remove, cX6_remove, 2, none, 6, 0, 0, 0, 2, [])
def gX6_slotFrom : bkM := (yX6_slotFrom, cX6_slotFrom, 4, (some .int), 6, 0, 0, 0, 3, [])
def gX7_greatestDistance : bkM := (yX7_greatestDistance, cX7_greatestDistance, 4, (some .int), 7, 3, 0, 0, 1, [])
def gX7_lastStation : bkM := (yX7_lastStation, cX7_lastStation, 1, (some .int), 7, 1, 0, 0, 1, [])
def gX7_place : bkM := (yX7_place, cX7_place, 3, (some .int), 7, 2, 0, 0, 2, [])
def gX7_tapeCount : bkM := (yX7_tapeCount, cX7_tapeCount, 1, (some .int), 7, 0, 0, 0, 1, [])
def gX8_init : bkM := (yX8_init, cX8_init, 1, none, 8, 3, 146, 4501, 1, [])
def gX8_account : bkM := (yX8_account, cX8_account, 2, (some .long), 8, 1, 1, 6, 2, [])
def gX8_addBook : bkM := (yX8_addBook, cX8_addBook, 4, (some .int), 8, 4, 1, 6, 4, [])
def gX8_addChecked : bkM := (yX8_addChecked, cX8_addChecked, 5, (some .int), 8, 3, 1, 6, 5, [])
def gX8_append : bkM := (yX8_append, cX8_append, 2, none, 8, 1, 1, 6, 2, [])
def gX8_block : bkM := (yX8_block, cX8_block, 3, (some .int), 8, 1, 2, 12, 3, [])
def gX8_boardShare : bkM := (yX8_boardShare, cX8_boardShare, 8, (some .double), 8, 3, 2, 12, 2, [])
def gX8_buy : bkM := (yX8_buy, cX8_buy, 4, (some .int), 8, 3, 2, 12, 4, [])
def gX8_clothWaste : bkM := (yX8_clothWaste, cX8_clothWaste, 4, (some .double), 8, 4, 2, 12, 2, [])
def gX8_cost : bkM := (yX8_cost, cX8_cost, 7, (some .int), 8, 6, 2, 12, 3, [])
def gX8_dropPrice : bkM := (yX8_dropPrice, cX8_dropPrice, 5, (some .int), 8, 3, 2, 12, 3, [])
def gX8_faultPosition : bkM := (yX8_faultPosition, cX8_faultPosition, 1, (some .int), 8, 0, 0, 0, 1, [])
def gX8_fittedCloth : bkM := (yX8_fittedCloth, cX8_fittedCloth, 2, (some .int), 8, 4, 1, 6, 2, [])
def gX8_isBlockNumber : bkM := (yX8_isBlockNumber, cX8_isBlockNumber, 2, (some .boolean), 8, 0, 0, 0, 2, [])
def gX8_isPrice : bkM := (yX8_isPrice, cX8_isPrice, 1, (some .boolean), 8, 0, 0, 0, 1, [])
def gX8_isSheetSide : bkM := (yX8_isSheetSide, cX8_isSheetSide, 1, (some .boolean), 8, 0, 0, 0, 1, [])
def gX8_layCloths : bkM := (yX8_layCloths, cX8_layCloths, 3, none, 8, 3, 1, 6, 2, [])
def gX8_leastCloth : bkM := (yX8_leastCloth, cX8_leastCloth, 2, (some .int), 8, 4, 1, 6, 2, [])
def gX8_lot : bkM := (yX8_lot, cX8_lot, 5, (some .int), 8, 1, 2, 12, 4, [])
def gX8_make : bkM := (yX8_make, cX8_make, 3, (some .int), 8, 6, 2, 12, 2, [])
def gX8_needed : bkM := (yX8_needed, cX8_needed, 4, (some .int), 8, 5, 3, 18, 3, [])
def gX8_pass : bkM := (yX8_pass, cX8_pass, 2, (some .int), 8, 3, 1, 6, 2, [])
def gX8_perSheet : bkM := (yX8_perSheet, cX8_perSheet, 3, (some .int), 8, 3, 3, 18, 3, [])
def gX8_piece : bkM := (yX8_piece, cX8_piece, 4, (some .int), 8, 2, 2, 12, 4, [])
def gX8_price : bkM := (yX8_price, cX8_price, 4, (some .int), 8, 1, 2, 12, 3, [])
def gX8_readBook : bkM := (yX8_readBook, cX8_readBook, 3, (some .int), 8, 4, 2, 12, 1, [])
def gX8_refusal : bkM := (yX8_refusal, cX8_refusal, 1, (some .int), 8, 0, 1, 6, 1, [])
def gX8_requireBook : bkM := (yX8_requireBook, cX8_requireBook, 2, none, 8, 0, 1, 6, 2, [])
def gX8_requireMaterial : bkM := (yX8_requireMaterial, cX8_requireMaterial, 1, none, 8, 0, 1, 6, 1, [])
def gX8_requirePiece : bkM := (yX8_requirePiece, cX8_requirePiece, 1, none, 8, 0, 1, 6, 1, [])
def gX8_requireSetting : bkM := (yX8_requireSetting, cX8_requireSetting, 1, none, 8, 0, 1, 6, 1, [])
def gX8_requireSheetMaterial : bkM := (yX8_requireSheetMaterial, cX8_requireSheetMaterial, 1, none, 8, 0, 1, 6, 1, [])
def gX8_restore : bkM := (yX8_restore, cX8_restore, 1, none, 8, 2, 1, 6, 1, [])
def gX8_save : bkM := (yX8_save, cX8_save, 1, none, 8, 2, 0, 0, 1, [])
def gX8_set : bkM := (yX8_set, cX8_set, 5, (some .int), 8, 3, 2, 12, 3, [])
def gX8_setBlock : bkM := (yX8_setBlock, cX8_setBlock, 4, (some .int), 8, 3, 2, 12, 4, [])
def gX8_setPrice : bkM := (yX8_setPrice, cX8_setPrice, 4, (some .int), 8, 3, 2, 12, 4, [])
def gX8_setSheet : bkM := (yX8_setSheet, cX8_setSheet, 6, (some .int), 8, 3, 2, 12, 5, [])
def gX8_setting : bkM := (yX8_setting, cX8_setting, 2, (some .int), 8, 1, 1, 6, 2, [])
def gX8_sheet : bkM := (yX8_sheet, cX8_sheet, 3, (some .int), 8, 1, 2, 12, 3, [])
def gX8_station : bkM := (yX8_station, cX8_station, 4, (some .int), 8, 3, 2, 12, 3, [])
def gX8_stock : bkM := (yX8_stock, cX8_stock, 2, (some .int), 8, 1, 1, 6, 2, [])
def gX8_strip : bkM := (yX8_strip, cX8_strip, 4, (some .int), 8, 4, 2, 12, 3, [])
def gX8_strips : bkM := (yX8_strips, cX8_strips, 2, (some .int), 8, 4, 1, 6, 2, [])
def gX8_tapes : bkM := (yX8_tapes, cX8_tapes, 2, (some .int), 8, 1, 1, 6, 2, [])
def gX8_undo : bkM := (yX8_undo, cX8_undo, 1, (some .int), 8, 3, 1, 6, 1, [])
def gX8_widestGap : bkM := (yX8_widestGap, cX8_widestGap, 2, (some .int), 8, 4, 1, 6, 2, [])
def gX8_wouldRefuse : bkM := (yX8_wouldRefuse, cX8_wouldRefuse, 2, (some .int), 8, 6, 1, 6, 2, [])
def gX9_init : bkM := (yX9_init, cX9_init, 2, none, 9, 0, 10, 4328, 1, [])
def gX9_account : bkM := (yX9_account, cX9_account, 2, (some .long), 9, 2, 0, 0, 2, [])
def gX9_add : bkM := (yX9_add, cX9_add, 6, (some .int), 9, 1, 0, 0, 5, [])
def gX9_addBook : bkM := (yX9_addBook, cX9_addBook, 4, (some .int), 9, 3, 0, 0, 4, [])
def gX9_append : bkM := (yX9_append, cX9_append, 2, none, 9, 0, 0, 0, 2, [])
def gX9_block : bkM := (yX9_block, cX9_block, 3, (some .int), 9, 2, 0, 0, 3, [])
def gX9_boardBreadth : bkM := (yX9_boardBreadth, cX9_boardBreadth, 2, (some .int), 9, 2, 0, 0, 2, [])
def gX9_boardLength : bkM := (yX9_boardLength, cX9_boardLength, 2, (some .int), 9, 2, 0, 0, 2, [])
def gX9_boardShare : bkM := (yX9_boardShare, cX9_boardShare, 8, (some .double), 9, 5, 0, 0, 2, [])
def gX9_breadthOf : bkM := (yX9_breadthOf, cX9_breadthOf, 3, (some .int), 9, 3, 0, 0, 3, [])
def gX9_buy : bkM := (yX9_buy, cX9_buy, 5, (some .int), 9, 2, 0, 0, 4, [])
def gX9_change : bkM := (yX9_change, cX9_change, 1, none, 9, 0, 0, 0, 1, [])
def gX9_clothWaste : bkM := (yX9_clothWaste, cX9_clothWaste, 5, (some .double), 9, 6, 0, 0, 2, [])
def gX9_cost : bkM := (yX9_cost, cX9_cost, 6, (some .int), 9, 7, 0, 0, 3, [])
def gX9_dropPrice : bkM := (yX9_dropPrice, cX9_dropPrice, 5, (some .int), 9, 2, 0, 0, 3, [])
def gX9_exchange : bkM := (yX9_exchange, cX9_exchange, 4, (some .int), 9, 1, 0, 0, 3, [])
def gX9_faultPosition : bkM := (yX9_faultPosition, cX9_faultPosition, 1, (some .int), 9, 0, 0, 0, 1, [])
def gX9_fit : bkM := (yX9_fit, cX9_fit, 5, none, 9, 4, 0, 0, 2, [])
def gX9_fittedCloth : bkM := (yX9_fittedCloth, cX9_fittedCloth, 4, (some .int), 9, 6, 0, 0, 2, [])
def gX9_get : bkM := (yX9_get, cX9_get, 2, (some .int), 9, 0, 0, 0, 2, [])
def gX9_has : bkM := (yX9_has, cX9_has, 2, (some .boolean), 9, 0, 0, 0, 2, [])
def gX9_in : bkM := (yX9_in, cX9_in, 3, (some .boolean), 9, 0, 0, 0, 3, [])
def gX9_isBlock : bkM := (yX9_isBlock, cX9_isBlock, 3, (some .boolean), 9, 2, 0, 0, 3, [])
def gX9_isBook : bkM := (yX9_isBook, cX9_isBook, 2, (some .boolean), 9, 1, 0, 0, 2, [])
def gX9_isHere : bkM := (yX9_isHere, cX9_isHere, 3, (some .boolean), 9, 1, 0, 0, 3, [])
def gX9_isMaterial : bkM := (yX9_isMaterial, cX9_isMaterial, 1, (some .boolean), 9, 1, 0, 0, 1, [])
def gX9_isNumber : bkM := (yX9_isNumber, cX9_isNumber, 2, (some .boolean), 9, 1, 0, 0, 2, [])
def gX9_isOther : bkM := (yX9_isOther, cX9_isOther, 4, (some .boolean), 9, 4, 0, 0, 3, [])
def gX9_isSettingValue : bkM := (yX9_isSettingValue, cX9_isSettingValue, 2, (some .boolean), 9, 1, 0, 0, 2, [])
def gX9_isTooBroad : bkM := (yX9_isTooBroad, cX9_isTooBroad, 2, (some .boolean), 9, 4, 0, 0, 2, [])
def gX9_leastCloth : bkM := (yX9_leastCloth, cX9_leastCloth, 2, (some .int), 9, 6, 0, 0, 2, [])
def gX9_leastOf : bkM := (yX9_leastOf, cX9_leastOf, 6, (some .int), 9, 5, 0, 0, 2, [])
def gX9_lengthOf : bkM := (yX9_lengthOf, cX9_lengthOf, 3, (some .int), 9, 3, 0, 0, 3, [])
def gX9_listPrice : bkM := (yX9_listPrice, cX9_listPrice, 6, (some .int), 9, 1, 0, 0, 3, [])
def gX9_lot : bkM := (yX9_lot, cX9_lot, 6, (some .int), 9, 2, 0, 0, 4, [])
def gX9_lotsOf : bkM := (yX9_lotsOf, cX9_lotsOf, 4, (some .int), 9, 1, 0, 0, 2, [])
def gX9_make : bkM := (yX9_make, cX9_make, 5, (some .int), 9, 7, 0, 0, 2, [])
def gX9_measure : bkM := (yX9_measure, cX9_measure, 3, none, 9, 4, 0, 0, 1, [])
def gX9_needed : bkM := (yX9_needed, cX9_needed, 4, (some .int), 9, 6, 0, 0, 3, [])
def gX9_number : bkM := (yX9_number, cX9_number, 4, (some .int), 9, 2, 0, 0, 2, [])
def gX9_of : bkM := (yX9_of, cX9_of, 3, (some .int), 9, 1, 0, 0, 3, [])
def gX9_oneStrip : bkM := (yX9_oneStrip, cX9_oneStrip, 5, (some .int), 9, 4, 0, 0, 2, [])
def gX9_pass : bkM := (yX9_pass, cX9_pass, 2, (some .int), 9, 1, 0, 0, 2, [])
def gX9_perSheet : bkM := (yX9_perSheet, cX9_perSheet, 3, (some .int), 9, 5, 0, 0, 3, [])
def gX9_piece : bkM := (yX9_piece, cX9_piece, 4, (some .int), 9, 4, 0, 0, 4, [])
def gX9_placeOf : bkM := (yX9_placeOf, cX9_placeOf, 5, (some .int), 9, 3, 0, 0, 3, [])
def gX9_price : bkM := (yX9_price, cX9_price, 4, (some .int), 9, 2, 0, 0, 3, [])
def gX9_priceAt : bkM := (yX9_priceAt, cX9_priceAt, 4, (some .int), 9, 1, 0, 0, 3, [])
def gX9_readBook : bkM := (yX9_readBook, cX9_readBook, 6, (some .int), 9, 3, 0, 0, 1, [])
def gX9_refusal : bkM := (yX9_refusal, cX9_refusal, 1, (some .int), 9, 0, 0, 0, 1, [])
def gX9_refusalOf : bkM := (yX9_refusalOf, cX9_refusalOf, 3, (some .int), 9, 5, 0, 0, 2, [])
def gX9_refusalOfBook : bkM := (yX9_refusalOfBook, cX9_refusalOfBook, 3, (some .int), 9, 6, 0, 0, 2, [])
def gX9_restore : bkM := (yX9_restore, cX9_restore, 1, none, 9, 0, 0, 0, 1, [])
def gX9_save : bkM := (yX9_save, cX9_save, 1, none, 9, 0, 0, 0, 1, [])
def gX9_set : bkM := (yX9_set, cX9_set, 6, (some .int), 9, 5, 0, 0, 3, [])
def gX9_setBlock : bkM := (yX9_setBlock, cX9_setBlock, 6, (some .int), 9, 5, 0, 0, 4, [])
def gX9_setPrice : bkM := (yX9_setPrice, cX9_setPrice, 5, (some .int), 9, 2, 0, 0, 4, [])
def gX9_setSheet : bkM := (yX9_setSheet, cX9_setSheet, 6, (some .int), 9, 2, 0, 0, 5, [])
def gX9_setting : bkM := (yX9_setting, cX9_setting, 2, (some .int), 9, 1, 0, 0, 2, [])
def gX9_sheet : bkM := (yX9_sheet, cX9_sheet, 3, (some .int), 9, 1, 0, 0, 3, [])
def gX9_sign : bkM := (yX9_sign, cX9_sign, 2, none, 9, 2, 0, 0, 2, [])
def gX9_spineBreadth : bkM := (yX9_spineBreadth, cX9_spineBreadth, 2, (some .int), 9, 2, 0, 0, 2, [])
def gX9_station : bkM := (yX9_station, cX9_station, 3, (some .int), 9, 4, 0, 0, 3, [])
def gX9_stock : bkM := (yX9_stock, cX9_stock, 2, (some .int), 9, 2, 0, 0, 2, [])
def gX9_stockOf : bkM := (yX9_stockOf, cX9_stockOf, 4, (some .int), 9, 1, 0, 0, 2, [])
def gX9_strip : bkM := (yX9_strip, cX9_strip, 3, (some .int), 9, 6, 0, 0, 3, [])
def gX9_strips : bkM := (yX9_strips, cX9_strips, 2, (some .int), 9, 6, 0, 0, 2, [])
def gX9_tapes : bkM := (yX9_tapes, cX9_tapes, 2, (some .int), 9, 3, 0, 0, 2, [])
def gX9_tapesOf : bkM := (yX9_tapesOf, cX9_tapesOf, 2, (some .int), 9, 2, 0, 0, 2, [])
def gX9_thrown : bkM := (yX9_thrown, cX9_thrown, 1, (some .int), 9, 0, 0, 0, 1, [])
def gX9_undo : bkM := (yX9_undo, cX9_undo, 1, (some .int), 9, 0, 0, 0, 1, [])
def gX9_unitsOf : bkM := (yX9_unitsOf, cX9_unitsOf, 6, (some .int), 9, 5, 0, 0, 3, [])
def gX9_up : bkM := (yX9_up, cX9_up, 2, (some .int), 9, 0, 0, 0, 2, [])
def gX9_use : bkM := (yX9_use, cX9_use, 8, (some .int), 9, 1, 0, 0, 3, [])
def gX9_widestGap : bkM := (yX9_widestGap, cX9_widestGap, 4, (some .int), 9, 4, 0, 0, 2, [])
def gX9_worth : bkM := (yX9_worth, cX9_worth, 4, (some .long), 9, 1, 0, 0, 1, [])
def gX9_wouldRefuse : bkM := (yX9_wouldRefuse, cX9_wouldRefuse, 2, (some .int), 9, 7, 0, 0, 2, [])
def gX9_yieldOf : bkM := (yX9_yieldOf, cX9_yieldOf, 9, (some .int), 9, 4, 0, 0, 3, [])
def gL_account : bkM := (yL_account, cL_account, 4, (some .int), 10, 2, 1, 6, 3, [(0, 8, 11, 13)])
def gL_addBook : bkM := (yL_addBook, cL_addBook, 6, (some .int), 10, 5, 1, 6, 5, [(0, 12, 15, 13), (0, 12, 19, 15)])
def gL_append : bkM := (yL_append, cL_append, 3, (some .int), 10, 2, 1, 6, 2, [(0, 5, 8, 15)])
def gL_block : bkM := (yL_block, cL_block, 5, (some .int), 10, 2, 2, 12, 4, [(0, 10, 13, 20), (0, 10, 17, 13)])
def gL_boardShare : bkM := (yL_boardShare, cL_boardShare, 4, (some .int), 10, 4, 2, 12, 3, [(0, 8, 11, 20), (0, 8, 14, 61)])
def gL_buy : bkM := (yL_buy, cL_buy, 6, (some .int), 10, 4, 2, 12, 5, [(0, 12, 15, 20), (0, 12, 19, 13), (0, 12, 23, 15)])
def gL_clothWaste : bkM := (yL_clothWaste, cL_clothWaste, 4, (some .int), 10, 5, 2, 12, 3, [(0, 8, 11, 13), (0, 8, 14, 50), (0, 8, 17, 61)])
def gL_cost : bkM := (yL_cost, cL_cost, 5, (some .int), 10, 7, 2, 12, 4, [(0, 10, 13, 20), (0, 10, 17, 50), (0, 10, 21, 55)])
def gL_dropPrice : bkM := (yL_dropPrice, cL_dropPrice, 5, (some .int), 10, 4, 2, 12, 4, [(0, 10, 13, 20), (0, 10, 17, 55)])
def gL_fittedCloth : bkM := (yL_fittedCloth, cL_fittedCloth, 4, (some .int), 10, 5, 1, 6, 3, [(0, 9, 12, 13), (0, 9, 15, 50)])
def gL_law : bkM := (yL_law, cL_law, 9, (some .boolean), 10, 11, 603072, 7182442, 1, [])
def gL_leastCloth : bkM := (yL_leastCloth, cL_leastCloth, 4, (some .int), 10, 5, 1, 6, 3, [(0, 9, 12, 13), (0, 9, 15, 50)])
def gL_lot : bkM := (yL_lot, cL_lot, 6, (some .int), 10, 2, 2, 12, 5, [(0, 12, 15, 20), (0, 12, 19, 55)])
def gL_make : bkM := (yL_make, cL_make, 4, (some .int), 10, 7, 2, 12, 3, [(0, 9, 12, 20), (0, 9, 15, 50)])
def gL_needed : bkM := (yL_needed, cL_needed, 5, (some .int), 10, 6, 3, 18, 4, [(0, 10, 13, 20), (0, 10, 17, 55)])
def gL_pass : bkM := (yL_pass, cL_pass, 4, (some .int), 10, 4, 1, 6, 3, [(0, 9, 12, 13), (0, 9, 15, 15)])
def gL_perSheet : bkM := (yL_perSheet, cL_perSheet, 5, (some .int), 10, 4, 3, 18, 4, [(0, 10, 13, 20), (0, 10, 17, 50)])
def gL_piece : bkM := (yL_piece, cL_piece, 6, (some .int), 10, 3, 2, 12, 5, [(0, 12, 15, 20)])
def gL_price : bkM := (yL_price, cL_price, 5, (some .int), 10, 2, 2, 12, 4, [(0, 10, 13, 20), (0, 10, 17, 55)])
def gL_readBook : bkM := (yL_readBook, cL_readBook, 3, (some .int), 10, 5, 2, 12, 2, [(0, 8, 11, 13), (0, 8, 14, 15)])
def gL_refusal : bkM := (yL_refusal, cL_refusal, 3, (some .int), 10, 1, 1, 6, 2, [(0, 8, 11, 55)])
def gL_restore : bkM := (yL_restore, cL_restore, 2, (some .int), 10, 3, 1, 6, 1, [(0, 4, 7, 15)])
def gL_set : bkM := (yL_set, cL_set, 5, (some .int), 10, 4, 2, 12, 4, [(0, 10, 13, 20), (0, 10, 17, 13)])
def gL_setBlock : bkM := (yL_setBlock, cL_setBlock, 6, (some .int), 10, 4, 2, 12, 5, [(0, 12, 15, 20), (0, 12, 19, 13)])
def gL_setPrice : bkM := (yL_setPrice, cL_setPrice, 6, (some .int), 10, 4, 2, 12, 5, [(0, 12, 15, 20), (0, 12, 19, 13), (0, 12, 23, 15)])
def gL_setSheet : bkM := (yL_setSheet, cL_setSheet, 7, (some .int), 10, 4, 2, 12, 6, [(0, 14, 17, 20), (0, 14, 21, 13)])
def gL_setting : bkM := (yL_setting, cL_setting, 4, (some .int), 10, 2, 1, 6, 3, [(0, 9, 12, 20)])
def gL_sheet : bkM := (yL_sheet, cL_sheet, 5, (some .int), 10, 2, 2, 12, 4, [(0, 10, 13, 20), (0, 10, 17, 13)])
def gL_station : bkM := (yL_station, cL_station, 5, (some .int), 10, 4, 2, 12, 4, [(0, 10, 13, 20), (0, 10, 17, 55)])
def gL_stock : bkM := (yL_stock, cL_stock, 4, (some .int), 10, 2, 1, 6, 3, [(0, 9, 12, 20)])
def gL_strip : bkM := (yL_strip, cL_strip, 5, (some .int), 10, 5, 2, 12, 4, [(0, 10, 13, 13), (0, 10, 17, 50), (0, 10, 21, 55)])
def gL_strips : bkM := (yL_strips, cL_strips, 4, (some .int), 10, 5, 1, 6, 3, [(0, 9, 12, 13), (0, 9, 15, 50)])
def gL_tapes : bkM := (yL_tapes, cL_tapes, 4, (some .int), 10, 2, 1, 6, 3, [(0, 9, 12, 20)])
def gL_undo : bkM := (yL_undo, cL_undo, 3, (some .int), 10, 4, 1, 6, 2, [(0, 8, 11, 15)])
def gL_widestGap : bkM := (yL_widestGap, cL_widestGap, 4, (some .int), 10, 5, 1, 6, 3, [(0, 9, 12, 20)])
def gL_wouldRefuse : bkM := (yL_wouldRefuse, cL_wouldRefuse, 4, (some .int), 10, 7, 1, 6, 3, [(0, 9, 12, 20)])
def gJ6_bitCount_0f7a4 : bkM := (yJ6_bitCount_0f7a4, cJ6_bitCount_0f7a4, 1, (some .int), 11, 0, 0, 0, 1, [])
set_option maxRecDepth 100000 in
theorem ok_gX0_init : MethOK gX0_init := ⟨ga_c1 214 rfl rfl, ga_c1 9 (by decide +kernel) rfl, by decide +kernel, ⟨by decide +kernel, by decide +kernel⟩, by decide +kernel⟩
set_option maxRecDepth 100000 in
theorem ok_gX0_isDigitAt : MethOK gX0_isDigitAt := ⟨ga_c5 19 rfl rfl, ga_c1 9 (by decide +kernel) rfl, by decide +kernel, ⟨by decide +kernel, by decide +kernel⟩, by decide +kernel⟩
set_option maxRecDepth 100000 in
theorem ok_gX0_put : MethOK gX0_put := ⟨ga_c4 236 rfl rfl, ga_c1 9 (by decide +kernel) rfl, by decide +kernel, ⟨by decide +kernel, by decide +kernel⟩, by decide +kernel⟩
set_option maxRecDepth 100000 in
theorem ok_gX0_readAndEmpty : MethOK gX0_readAndEmpty := ⟨ga_c5 7 rfl rfl, ga_c1 9 (by decide +kernel) rfl, by decide +kernel, ⟨by decide +kernel, by decide +kernel⟩, by decide +kernel⟩
set_option maxRecDepth 100000 in
theorem ok_gX0_readBlock : MethOK gX0_readBlock := ⟨ga_c5 11 rfl rfl, ga_c1 9 (by decide +kernel) rfl, by decide +kernel, ⟨by decide +kernel, by decide +kernel⟩, by decide +kernel⟩
set_option maxRecDepth 100000 in
theorem ok_gX0_readCopies : MethOK gX0_readCopies := ⟨ga_c5 27 rfl rfl, ga_c1 9 (by decide +kernel) rfl, by decide +kernel, ⟨by decide +kernel, by decide +kernel⟩, by decide +kernel⟩
set_option maxRecDepth 100000 in
theorem ok_gX0_readNumber : MethOK gX0_readNumber := ⟨ga_c5 15 rfl rfl, ga_c1 9 (by decide +kernel) rfl, by decide +kernel, ⟨by decide +kernel, by decide +kernel⟩, by decide +kernel⟩
set_option maxRecDepth 100000 in
theorem ok_gX0_readSign : MethOK gX0_readSign := ⟨ga_c5 23 rfl rfl, ga_c1 9 (by decide +kernel) rfl, by decide +kernel, ⟨by decide +kernel, by decide +kernel⟩, by decide +kernel⟩
set_option maxRecDepth 100000 in
theorem ok_gX1_init : MethOK gX1_init := ⟨ga_c1 172 rfl rfl, ga_c1 8 (by decide +kernel) rfl, by decide +kernel, ⟨by decide +kernel, by decide +kernel⟩, by decide +kernel⟩
set_option maxRecDepth 100000 in
theorem ok_gX1_clothArea : MethOK gX1_clothArea := ⟨ga_c4 83 rfl rfl, ga_c1 8 (by decide +kernel) rfl, by decide +kernel, ⟨by decide +kernel, by decide +kernel⟩, by decide +kernel⟩
set_option maxRecDepth 100000 in
theorem ok_gX1_firstStripWith : MethOK gX1_firstStripWith := ⟨ga_c4 52 rfl rfl, ga_c1 8 (by decide +kernel) rfl, by decide +kernel, ⟨by decide +kernel, by decide +kernel⟩, by decide +kernel⟩
set_option maxRecDepth 100000 in
theorem ok_gX1_fit : MethOK gX1_fit := ⟨ga_c4 48 rfl rfl, ga_c1 8 (by decide +kernel) rfl, by decide +kernel, ⟨by decide +kernel, by decide +kernel⟩, by decide +kernel⟩
set_option maxRecDepth 100000 in
theorem ok_gX1_lay : MethOK gX1_lay := ⟨ga_c4 18 rfl rfl, ga_c1 8 (by decide +kernel) rfl, by decide +kernel, ⟨by decide +kernel, by decide +kernel⟩, by decide +kernel⟩
set_option maxRecDepth 100000 in
theorem ok_gX1_layCloth : MethOK gX1_layCloth := ⟨ga_c4 24 rfl rfl, ga_c1 8 (by decide +kernel) rfl, by decide +kernel, ⟨by decide +kernel, by decide +kernel⟩, by decide +kernel⟩
set_option maxRecDepth 100000 in
theorem ok_gX1_leastLength : MethOK gX1_leastLength := ⟨ga_c4 28 rfl rfl, ga_c1 8 (by decide +kernel) rfl, by decide +kernel, ⟨by decide +kernel, by decide +kernel⟩, by decide +kernel⟩
set_option maxRecDepth 100000 in
theorem ok_gX1_leastLengthOf : MethOK gX1_leastLengthOf := ⟨ga_c4 36 rfl rfl, ga_c1 8 (by decide +kernel) rfl, by decide +kernel, ⟨by decide +kernel, by decide +kernel⟩, by decide +kernel⟩
set_option maxRecDepth 100000 in
theorem ok_gX1_longestOf : MethOK gX1_longestOf := ⟨ga_c4 31 rfl rfl, ga_c1 8 (by decide +kernel) rfl, by decide +kernel, ⟨by decide +kernel, by decide +kernel⟩, by decide +kernel⟩
set_option maxRecDepth 100000 in
theorem ok_gX1_stripOfBook : MethOK gX1_stripOfBook := ⟨ga_c4 63 rfl rfl, ga_c1 8 (by decide +kernel) rfl, by decide +kernel, ⟨by decide +kernel, by decide +kernel⟩, by decide +kernel⟩
set_option maxRecDepth 100000 in
theorem ok_gX2_init : MethOK gX2_init := ⟨ga_c1 139 rfl rfl, ga_c1 6 (by decide +kernel) rfl, by decide +kernel, ⟨by decide +kernel, by decide +kernel⟩, by decide +kernel⟩
set_option maxRecDepth 100000 in
theorem ok_gX2_bringBack : MethOK gX2_bringBack := ⟨ga_c5 40 rfl rfl, ga_c1 6 (by decide +kernel) rfl, by decide +kernel, ⟨by decide +kernel, by decide +kernel⟩, by decide +kernel⟩
set_option maxRecDepth 100000 in
theorem ok_gX2_forget : MethOK gX2_forget := ⟨ga_c5 52 rfl rfl, ga_c1 6 (by decide +kernel) rfl, by decide +kernel, ⟨by decide +kernel, by decide +kernel⟩, by decide +kernel⟩
set_option maxRecDepth 100000 in
theorem ok_gX2_keep : MethOK gX2_keep := ⟨ga_c2 154 rfl rfl, ga_c1 6 (by decide +kernel) rfl, by decide +kernel, ⟨by decide +kernel, by decide +kernel⟩, by decide +kernel⟩
set_option maxRecDepth 100000 in
theorem ok_gX3_init : MethOK gX3_init := ⟨ga_c1 43 rfl rfl, ga_c1 3 (by decide +kernel) rfl, by decide +kernel, ⟨by decide +kernel, by decide +kernel⟩, by decide +kernel⟩
set_option maxRecDepth 100000 in
theorem ok_gX3_copyFrom : MethOK gX3_copyFrom := ⟨ga_c2 36 rfl rfl, ga_c1 3 (by decide +kernel) rfl, by decide +kernel, ⟨by decide +kernel, by decide +kernel⟩, by decide +kernel⟩
set_option maxRecDepth 100000 in
theorem ok_gX3_countOf : MethOK gX3_countOf := ⟨ga_c4 103 rfl rfl, ga_c1 3 (by decide +kernel) rfl, by decide +kernel, ⟨by decide +kernel, by decide +kernel⟩, by decide +kernel⟩
set_option maxRecDepth 100000 in
theorem ok_gX3_dropEmptyLots : MethOK gX3_dropEmptyLots := ⟨ga_c4 195 rfl rfl, ga_c1 3 (by decide +kernel) rfl, by decide +kernel, ⟨by decide +kernel, by decide +kernel⟩, by decide +kernel⟩
set_option maxRecDepth 100000 in
theorem ok_gX3_put : MethOK gX3_put := ⟨ga_c4 99 rfl rfl, ga_c1 3 (by decide +kernel) rfl, by decide +kernel, ⟨by decide +kernel, by decide +kernel⟩, by decide +kernel⟩
set_option maxRecDepth 100000 in
theorem ok_gX3_slotOf : MethOK gX3_slotOf := ⟨ga_c4 122 rfl rfl, ga_c1 3 (by decide +kernel) rfl, by decide +kernel, ⟨by decide +kernel, by decide +kernel⟩, by decide +kernel⟩
set_option maxRecDepth 100000 in
theorem ok_gX3_take : MethOK gX3_take := ⟨ga_c4 190 rfl rfl, ga_c1 3 (by decide +kernel) rfl, by decide +kernel, ⟨by decide +kernel, by decide +kernel⟩, by decide +kernel⟩
set_option maxRecDepth 100000 in
theorem ok_gX3_unitsOf : MethOK gX3_unitsOf := ⟨ga_c3 95 rfl rfl, ga_c1 3 (by decide +kernel) rfl, by decide +kernel, ⟨by decide +kernel, by decide +kernel⟩, by decide +kernel⟩
set_option maxRecDepth 100000 in
theorem ok_gX3_worth : MethOK gX3_worth := ⟨ga_c4 224 rfl rfl, ga_c1 3 (by decide +kernel) rfl, by decide +kernel, ⟨by decide +kernel, by decide +kernel⟩, by decide +kernel⟩
set_option maxRecDepth 100000 in
theorem ok_gX4_init : MethOK gX4_init := ⟨ga_c1 159 rfl rfl, ga_c1 7 (by decide +kernel) rfl, by decide +kernel, ⟨by decide +kernel, by decide +kernel⟩, by decide +kernel⟩
set_option maxRecDepth 100000 in
theorem ok_gX4_changedPieces : MethOK gX4_changedPieces := ⟨ga_c2 236 rfl rfl, ga_c1 7 (by decide +kernel) rfl, by decide +kernel, ⟨by decide +kernel, by decide +kernel⟩, by decide +kernel⟩
set_option maxRecDepth 100000 in
theorem ok_gX4_note : MethOK gX4_note := ⟨ga_c2 219 rfl rfl, ga_c1 7 (by decide +kernel) rfl, by decide +kernel, ⟨by decide +kernel, by decide +kernel⟩, by decide +kernel⟩
set_option maxRecDepth 100000 in
theorem ok_gX5_init : MethOK gX5_init := ⟨ga_c1 37 rfl rfl, ga_c1 2 (by decide +kernel) rfl, by decide +kernel, ⟨by decide +kernel, by decide +kernel⟩, by decide +kernel⟩
set_option maxRecDepth 100000 in
theorem ok_gX5_blockNumber : MethOK gX5_blockNumber := ⟨ga_c2 227 rfl rfl, ga_c1 2 (by decide +kernel) rfl, by decide +kernel, ⟨by decide +kernel, by decide +kernel⟩, by decide +kernel⟩
set_option maxRecDepth 100000 in
theorem ok_gX5_boardUnitsFor : MethOK gX5_boardUnitsFor := ⟨ga_c3 71 rfl rfl, ga_c1 2 (by decide +kernel) rfl, by decide +kernel, ⟨by decide +kernel, by decide +kernel⟩, by decide +kernel⟩
set_option maxRecDepth 100000 in
theorem ok_gX5_clothUnitsFor : MethOK gX5_clothUnitsFor := ⟨ga_c3 91 rfl rfl, ga_c1 2 (by decide +kernel) rfl, by decide +kernel, ⟨by decide +kernel, by decide +kernel⟩, by decide +kernel⟩
set_option maxRecDepth 100000 in
theorem ok_gX5_copyFrom : MethOK gX5_copyFrom := ⟨ga_c2 32 rfl rfl, ga_c1 2 (by decide +kernel) rfl, by decide +kernel, ⟨by decide +kernel, by decide +kernel⟩, by decide +kernel⟩
set_option maxRecDepth 100000 in
theorem ok_gX5_isClothTooBroad : MethOK gX5_isClothTooBroad := ⟨ga_c3 62 rfl rfl, ga_c1 2 (by decide +kernel) rfl, by decide +kernel, ⟨by decide +kernel, by decide +kernel⟩, by decide +kernel⟩
set_option maxRecDepth 100000 in
theorem ok_gX5_pieceBreadth : MethOK gX5_pieceBreadth := ⟨ga_c2 231 rfl rfl, ga_c1 2 (by decide +kernel) rfl, by decide +kernel, ⟨by decide +kernel, by decide +kernel⟩, by decide +kernel⟩
set_option maxRecDepth 100000 in
theorem ok_gX5_pieceLength : MethOK gX5_pieceLength := ⟨ga_c2 223 rfl rfl, ga_c1 2 (by decide +kernel) rfl, by decide +kernel, ⟨by decide +kernel, by decide +kernel⟩, by decide +kernel⟩
set_option maxRecDepth 100000 in
theorem ok_gX5_putBlockNumber : MethOK gX5_putBlockNumber := ⟨ga_c2 166 rfl rfl, ga_c1 2 (by decide +kernel) rfl, by decide +kernel, ⟨by decide +kernel, by decide +kernel⟩, by decide +kernel⟩
set_option maxRecDepth 100000 in
theorem ok_gX5_putBook : MethOK gX5_putBook := ⟨ga_c2 162 rfl rfl, ga_c1 2 (by decide +kernel) rfl, by decide +kernel, ⟨by decide +kernel, by decide +kernel⟩, by decide +kernel⟩
set_option maxRecDepth 100000 in
theorem ok_gX5_putSheet : MethOK gX5_putSheet := ⟨ga_c3 115 rfl rfl, ga_c1 2 (by decide +kernel) rfl, by decide +kernel, ⟨by decide +kernel, by decide +kernel⟩, by decide +kernel⟩
set_option maxRecDepth 100000 in
theorem ok_gX5_reasonAgainst : MethOK gX5_reasonAgainst := ⟨ga_c3 58 rfl rfl, ga_c1 2 (by decide +kernel) rfl, by decide +kernel, ⟨by decide +kernel, by decide +kernel⟩, by decide +kernel⟩
set_option maxRecDepth 100000 in
theorem ok_gX5_sheetNumber : MethOK gX5_sheetNumber := ⟨ga_c3 79 rfl rfl, ga_c1 2 (by decide +kernel) rfl, by decide +kernel, ⟨by decide +kernel, by decide +kernel⟩, by decide +kernel⟩
set_option maxRecDepth 100000 in
theorem ok_gX5_sheetsFor : MethOK gX5_sheetsFor := ⟨ga_c3 87 rfl rfl, ga_c1 2 (by decide +kernel) rfl, by decide +kernel, ⟨by decide +kernel, by decide +kernel⟩, by decide +kernel⟩
set_option maxRecDepth 100000 in
theorem ok_gX5_unitsFor : MethOK gX5_unitsFor := ⟨ga_c3 67 rfl rfl, ga_c1 2 (by decide +kernel) rfl, by decide +kernel, ⟨by decide +kernel, by decide +kernel⟩, by decide +kernel⟩
set_option maxRecDepth 100000 in
theorem ok_gX5_useUnitsFor : MethOK gX5_useUnitsFor := ⟨ga_c4 186 rfl rfl, ga_c1 2 (by decide +kernel) rfl, by decide +kernel, ⟨by decide +kernel, by decide +kernel⟩, by decide +kernel⟩
set_option maxRecDepth 100000 in
theorem ok_gX5_yieldFor : MethOK gX5_yieldFor := ⟨ga_c3 75 rfl rfl, ga_c1 2 (by decide +kernel) rfl, by decide +kernel, ⟨by decide +kernel, by decide +kernel⟩, by decide +kernel⟩
set_option maxRecDepth 100000 in
theorem ok_gX6_init : MethOK gX6_init := ⟨ga_c1 66 rfl rfl, ga_c1 4 (by decide +kernel) rfl, by decide +kernel, ⟨by decide +kernel, by decide +kernel⟩, by decide +kernel⟩
set_option maxRecDepth 100000 in
theorem ok_gX6_copyFrom : MethOK gX6_copyFrom := ⟨ga_c2 41 rfl rfl, ga_c1 4 (by decide +kernel) rfl, by decide +kernel, ⟨by decide +kernel, by decide +kernel⟩, by decide +kernel⟩
set_option maxRecDepth 100000 in
theorem ok_gX6_listPrice : MethOK gX6_listPrice := ⟨ga_c4 164 rfl rfl, ga_c1 4 (by decide +kernel) rfl, by decide +kernel, ⟨by decide +kernel, by decide +kernel⟩, by decide +kernel⟩
set_option maxRecDepth 100000 in
theorem ok_gX6_put : MethOK gX6_put := ⟨ga_c4 140 rfl rfl, ga_c1 4 (by decide +kernel) rfl, by decide +kernel, ⟨by decide +kernel, by decide +kernel⟩, by decide +kernel⟩
set_option maxRecDepth 100000 in
theorem ok_gX6_remove : MethOK gX6_remove := ⟨ga_c4 153 rfl rfl, ga_c1 4 (by decide +kernel) rfl, by decide +kernel, ⟨by decide +kernel, by decide +kernel⟩, by decide +kernel⟩
set_option maxRecDepth 100000 in
theorem ok_gX6_slotFrom : MethOK gX6_slotFrom := ⟨ga_c4 135 rfl rfl, ga_c1 4 (by decide +kernel) rfl, by decide +kernel, ⟨by decide +kernel, by decide +kernel⟩, by decide +kernel⟩
set_option maxRecDepth 100000 in
theorem ok_gX7_greatestDistance : MethOK gX7_greatestDistance := ⟨ga_c3 238 rfl rfl, ga_c1 24 (by decide +kernel) rfl, by decide +kernel, ⟨by decide +kernel, by decide +kernel⟩, by decide +kernel⟩
set_option maxRecDepth 100000 in
theorem ok_gX7_lastStation : MethOK gX7_lastStation := ⟨ga_c3 222 rfl rfl, ga_c1 24 (by decide +kernel) rfl, by decide +kernel, ⟨by decide +kernel, by decide +kernel⟩, by decide +kernel⟩
set_option maxRecDepth 100000 in
theorem ok_gX7_place : MethOK gX7_place := ⟨ga_c3 227 rfl rfl, ga_c1 24 (by decide +kernel) rfl, by decide +kernel, ⟨by decide +kernel, by decide +kernel⟩, by decide +kernel⟩
set_option maxRecDepth 100000 in
theorem ok_gX7_tapeCount : MethOK gX7_tapeCount := ⟨ga_c3 212 rfl rfl, ga_c1 24 (by decide +kernel) rfl, by decide +kernel, ⟨by decide +kernel, by decide +kernel⟩, by decide +kernel⟩
set_option maxRecDepth 100000 in
theorem ok_gX8_init : MethOK gX8_init := ⟨ga_c1 29 rfl rfl, ga_c1 1 (by decide +kernel) rfl, by decide +kernel, ⟨by decide +kernel, by decide +kernel⟩, by decide +kernel⟩
set_option maxRecDepth 100000 in
theorem ok_gX8_account : MethOK gX8_account := ⟨ga_c4 219 rfl rfl, ga_c1 1 (by decide +kernel) rfl, by decide +kernel, ⟨by decide +kernel, by decide +kernel⟩, by decide +kernel⟩
set_option maxRecDepth 100000 in
theorem ok_gX8_addBook : MethOK gX8_addBook := ⟨ga_c2 51 rfl rfl, ga_c1 1 (by decide +kernel) rfl, by decide +kernel, ⟨by decide +kernel, by decide +kernel⟩, by decide +kernel⟩
set_option maxRecDepth 100000 in
theorem ok_gX8_addChecked : MethOK gX8_addChecked := ⟨ga_c2 55 rfl rfl, ga_c1 1 (by decide +kernel) rfl, by decide +kernel, ⟨by decide +kernel, by decide +kernel⟩, by decide +kernel⟩
set_option maxRecDepth 100000 in
theorem ok_gX8_append : MethOK gX8_append := ⟨ga_c4 231 rfl rfl, ga_c1 1 (by decide +kernel) rfl, by decide +kernel, ⟨by decide +kernel, by decide +kernel⟩, by decide +kernel⟩
set_option maxRecDepth 100000 in
theorem ok_gX8_block : MethOK gX8_block := ⟨ga_c3 3 rfl rfl, ga_c1 1 (by decide +kernel) rfl, by decide +kernel, ⟨by decide +kernel, by decide +kernel⟩, by decide +kernel⟩
set_option maxRecDepth 100000 in
theorem ok_gX8_boardShare : MethOK gX8_boardShare := ⟨ga_c3 198 rfl rfl, ga_c1 1 (by decide +kernel) rfl, by decide +kernel, ⟨by decide +kernel, by decide +kernel⟩, by decide +kernel⟩
set_option maxRecDepth 100000 in
theorem ok_gX8_buy : MethOK gX8_buy := ⟨ga_c4 90 rfl rfl, ga_c1 1 (by decide +kernel) rfl, by decide +kernel, ⟨by decide +kernel, by decide +kernel⟩, by decide +kernel⟩
set_option maxRecDepth 100000 in
theorem ok_gX8_clothWaste : MethOK gX8_clothWaste := ⟨ga_c4 78 rfl rfl, ga_c1 1 (by decide +kernel) rfl, by decide +kernel, ⟨by decide +kernel, by decide +kernel⟩, by decide +kernel⟩
set_option maxRecDepth 100000 in
theorem ok_gX8_cost : MethOK gX8_cost := ⟨ga_c4 172 rfl rfl, ga_c1 1 (by decide +kernel) rfl, by decide +kernel, ⟨by decide +kernel, by decide +kernel⟩, by decide +kernel⟩
set_option maxRecDepth 100000 in
theorem ok_gX8_dropPrice : MethOK gX8_dropPrice := ⟨ga_c4 148 rfl rfl, ga_c1 1 (by decide +kernel) rfl, by decide +kernel, ⟨by decide +kernel, by decide +kernel⟩, by decide +kernel⟩
set_option maxRecDepth 100000 in
theorem ok_gX8_faultPosition : MethOK gX8_faultPosition := ⟨ga_c2 24 rfl rfl, ga_c1 1 (by decide +kernel) rfl, by decide +kernel, ⟨by decide +kernel, by decide +kernel⟩, by decide +kernel⟩
set_option maxRecDepth 100000 in
theorem ok_gX8_fittedCloth : MethOK gX8_fittedCloth := ⟨ga_c4 44 rfl rfl, ga_c1 1 (by decide +kernel) rfl, by decide +kernel, ⟨by decide +kernel, by decide +kernel⟩, by decide +kernel⟩
set_option maxRecDepth 100000 in
theorem ok_gX8_isBlockNumber : MethOK gX8_isBlockNumber := ⟨ga_c2 58 rfl rfl, ga_c1 1 (by decide +kernel) rfl, by decide +kernel, ⟨by decide +kernel, by decide +kernel⟩, by decide +kernel⟩
set_option maxRecDepth 100000 in
theorem ok_gX8_isPrice : MethOK gX8_isPrice := ⟨ga_c4 93 rfl rfl, ga_c1 1 (by decide +kernel) rfl, by decide +kernel, ⟨by decide +kernel, by decide +kernel⟩, by decide +kernel⟩
set_option maxRecDepth 100000 in
theorem ok_gX8_isSheetSide : MethOK gX8_isSheetSide := ⟨ga_c3 109 rfl rfl, ga_c1 1 (by decide +kernel) rfl, by decide +kernel, ⟨by decide +kernel, by decide +kernel⟩, by decide +kernel⟩
set_option maxRecDepth 100000 in
theorem ok_gX8_layCloths : MethOK gX8_layCloths := ⟨ga_c4 11 rfl rfl, ga_c1 1 (by decide +kernel) rfl, by decide +kernel, ⟨by decide +kernel, by decide +kernel⟩, by decide +kernel⟩
set_option maxRecDepth 100000 in
theorem ok_gX8_leastCloth : MethOK gX8_leastCloth := ⟨ga_c4 7 rfl rfl, ga_c1 1 (by decide +kernel) rfl, by decide +kernel, ⟨by decide +kernel, by decide +kernel⟩, by decide +kernel⟩
set_option maxRecDepth 100000 in
theorem ok_gX8_lot : MethOK gX8_lot := ⟨ga_c4 118 rfl rfl, ga_c1 1 (by decide +kernel) rfl, by decide +kernel, ⟨by decide +kernel, by decide +kernel⟩, by decide +kernel⟩
set_option maxRecDepth 100000 in
theorem ok_gX8_make : MethOK gX8_make := ⟨ga_c4 181 rfl rfl, ga_c1 1 (by decide +kernel) rfl, by decide +kernel, ⟨by decide +kernel, by decide +kernel⟩, by decide +kernel⟩
set_option maxRecDepth 100000 in
theorem ok_gX8_needed : MethOK gX8_needed := ⟨ga_c3 156 rfl rfl, ga_c1 1 (by decide +kernel) rfl, by decide +kernel, ⟨by decide +kernel, by decide +kernel⟩, by decide +kernel⟩
set_option maxRecDepth 100000 in
theorem ok_gX8_pass : MethOK gX8_pass := ⟨ga_c4 210 rfl rfl, ga_c1 1 (by decide +kernel) rfl, by decide +kernel, ⟨by decide +kernel, by decide +kernel⟩, by decide +kernel⟩
set_option maxRecDepth 100000 in
theorem ok_gX8_perSheet : MethOK gX8_perSheet := ⟨ga_c3 131 rfl rfl, ga_c1 1 (by decide +kernel) rfl, by decide +kernel, ⟨by decide +kernel, by decide +kernel⟩, by decide +kernel⟩
set_option maxRecDepth 100000 in
theorem ok_gX8_piece : MethOK gX8_piece := ⟨ga_c3 41 rfl rfl, ga_c1 1 (by decide +kernel) rfl, by decide +kernel, ⟨by decide +kernel, by decide +kernel⟩, by decide +kernel⟩
set_option maxRecDepth 100000 in
theorem ok_gX8_price : MethOK gX8_price := ⟨ga_c4 160 rfl rfl, ga_c1 1 (by decide +kernel) rfl, by decide +kernel, ⟨by decide +kernel, by decide +kernel⟩, by decide +kernel⟩
set_option maxRecDepth 100000 in
theorem ok_gX8_readBook : MethOK gX8_readBook := ⟨ga_c5 3 rfl rfl, ga_c1 1 (by decide +kernel) rfl, by decide +kernel, ⟨by decide +kernel, by decide +kernel⟩, by decide +kernel⟩
set_option maxRecDepth 100000 in
theorem ok_gX8_refusal : MethOK gX8_refusal := ⟨ga_c4 202 rfl rfl, ga_c1 1 (by decide +kernel) rfl, by decide +kernel, ⟨by decide +kernel, by decide +kernel⟩, by decide +kernel⟩
set_option maxRecDepth 100000 in
theorem ok_gX8_requireBook : MethOK gX8_requireBook := ⟨ga_c2 201 rfl rfl, ga_c1 1 (by decide +kernel) rfl, by decide +kernel, ⟨by decide +kernel, by decide +kernel⟩, by decide +kernel⟩
set_option maxRecDepth 100000 in
theorem ok_gX8_requireMaterial : MethOK gX8_requireMaterial := ⟨ga_c3 159 rfl rfl, ga_c1 1 (by decide +kernel) rfl, by decide +kernel, ⟨by decide +kernel, by decide +kernel⟩, by decide +kernel⟩
set_option maxRecDepth 100000 in
theorem ok_gX8_requirePiece : MethOK gX8_requirePiece := ⟨ga_c3 44 rfl rfl, ga_c1 1 (by decide +kernel) rfl, by decide +kernel, ⟨by decide +kernel, by decide +kernel⟩, by decide +kernel⟩
set_option maxRecDepth 100000 in
theorem ok_gX8_requireSetting : MethOK gX8_requireSetting := ⟨ga_c3 15 rfl rfl, ga_c1 1 (by decide +kernel) rfl, by decide +kernel, ⟨by decide +kernel, by decide +kernel⟩, by decide +kernel⟩
set_option maxRecDepth 100000 in
theorem ok_gX8_requireSheetMaterial : MethOK gX8_requireSheetMaterial := ⟨ga_c3 105 rfl rfl, ga_c1 1 (by decide +kernel) rfl, by decide +kernel, ⟨by decide +kernel, by decide +kernel⟩, by decide +kernel⟩
set_option maxRecDepth 100000 in
theorem ok_gX8_restore : MethOK gX8_restore := ⟨ga_c5 47 rfl rfl, ga_c1 1 (by decide +kernel) rfl, by decide +kernel, ⟨by decide +kernel, by decide +kernel⟩, by decide +kernel⟩
set_option maxRecDepth 100000 in
theorem ok_gX8_save : MethOK gX8_save := ⟨ga_c2 28 rfl rfl, ga_c1 1 (by decide +kernel) rfl, by decide +kernel, ⟨by decide +kernel, by decide +kernel⟩, by decide +kernel⟩
set_option maxRecDepth 100000 in
theorem ok_gX8_set : MethOK gX8_set := ⟨ga_c3 12 rfl rfl, ga_c1 1 (by decide +kernel) rfl, by decide +kernel, ⟨by decide +kernel, by decide +kernel⟩, by decide +kernel⟩
set_option maxRecDepth 100000 in
theorem ok_gX8_setBlock : MethOK gX8_setBlock := ⟨ga_c2 197 rfl rfl, ga_c1 1 (by decide +kernel) rfl, by decide +kernel, ⟨by decide +kernel, by decide +kernel⟩, by decide +kernel⟩
set_option maxRecDepth 100000 in
theorem ok_gX8_setPrice : MethOK gX8_setPrice := ⟨ga_c4 130 rfl rfl, ga_c1 1 (by decide +kernel) rfl, by decide +kernel, ⟨by decide +kernel, by decide +kernel⟩, by decide +kernel⟩
set_option maxRecDepth 100000 in
theorem ok_gX8_setSheet : MethOK gX8_setSheet := ⟨ga_c3 102 rfl rfl, ga_c1 1 (by decide +kernel) rfl, by decide +kernel, ⟨by decide +kernel, by decide +kernel⟩, by decide +kernel⟩
set_option maxRecDepth 100000 in
theorem ok_gX8_setting : MethOK gX8_setting := ⟨ga_c3 34 rfl rfl, ga_c1 1 (by decide +kernel) rfl, by decide +kernel, ⟨by decide +kernel, by decide +kernel⟩, by decide +kernel⟩
set_option maxRecDepth 100000 in
theorem ok_gX8_sheet : MethOK gX8_sheet := ⟨ga_c3 122 rfl rfl, ga_c1 1 (by decide +kernel) rfl, by decide +kernel, ⟨by decide +kernel, by decide +kernel⟩, by decide +kernel⟩
set_option maxRecDepth 100000 in
theorem ok_gX8_station : MethOK gX8_station := ⟨ga_c3 219 rfl rfl, ga_c1 1 (by decide +kernel) rfl, by decide +kernel, ⟨by decide +kernel, by decide +kernel⟩, by decide +kernel⟩
set_option maxRecDepth 100000 in
theorem ok_gX8_stock : MethOK gX8_stock := ⟨ga_c4 110 rfl rfl, ga_c1 1 (by decide +kernel) rfl, by decide +kernel, ⟨by decide +kernel, by decide +kernel⟩, by decide +kernel⟩
set_option maxRecDepth 100000 in
theorem ok_gX8_strip : MethOK gX8_strip := ⟨ga_c4 59 rfl rfl, ga_c1 1 (by decide +kernel) rfl, by decide +kernel, ⟨by decide +kernel, by decide +kernel⟩, by decide +kernel⟩
set_option maxRecDepth 100000 in
theorem ok_gX8_strips : MethOK gX8_strips := ⟨ga_c4 71 rfl rfl, ga_c1 1 (by decide +kernel) rfl, by decide +kernel, ⟨by decide +kernel, by decide +kernel⟩, by decide +kernel⟩
set_option maxRecDepth 100000 in
theorem ok_gX8_tapes : MethOK gX8_tapes := ⟨ga_c3 209 rfl rfl, ga_c1 1 (by decide +kernel) rfl, by decide +kernel, ⟨by decide +kernel, by decide +kernel⟩, by decide +kernel⟩
set_option maxRecDepth 100000 in
theorem ok_gX8_undo : MethOK gX8_undo := ⟨ga_c5 35 rfl rfl, ga_c1 1 (by decide +kernel) rfl, by decide +kernel, ⟨by decide +kernel, by decide +kernel⟩, by decide +kernel⟩
set_option maxRecDepth 100000 in
theorem ok_gX8_widestGap : MethOK gX8_widestGap := ⟨ga_c3 235 rfl rfl, ga_c1 1 (by decide +kernel) rfl, by decide +kernel, ⟨by decide +kernel, by decide +kernel⟩, by decide +kernel⟩
set_option maxRecDepth 100000 in
theorem ok_gX8_wouldRefuse : MethOK gX8_wouldRefuse := ⟨ga_c3 54 rfl rfl, ga_c1 1 (by decide +kernel) rfl, by decide +kernel, ⟨by decide +kernel, by decide +kernel⟩, by decide +kernel⟩
set_option maxRecDepth 100000 in
theorem ok_gX9_init : MethOK gX9_init := ⟨ga_c5 57 rfl rfl, ga_c1 10 (by decide +kernel) rfl, by decide +kernel, ⟨by decide +kernel, by decide +kernel⟩, by decide +kernel⟩
set_option maxRecDepth 100000 in
theorem ok_gX9_account : MethOK gX9_account := ⟨ga_c6 146 rfl rfl, ga_c1 10 (by decide +kernel) rfl, by decide +kernel, ⟨by decide +kernel, by decide +kernel⟩, by decide +kernel⟩
set_option maxRecDepth 100000 in
theorem ok_gX9_add : MethOK gX9_add := ⟨ga_c5 147 rfl rfl, ga_c1 10 (by decide +kernel) rfl, by decide +kernel, ⟨by decide +kernel, by decide +kernel⟩, by decide +kernel⟩
set_option maxRecDepth 100000 in
theorem ok_gX9_addBook : MethOK gX9_addBook := ⟨ga_c5 130 rfl rfl, ga_c1 10 (by decide +kernel) rfl, by decide +kernel, ⟨by decide +kernel, by decide +kernel⟩, by decide +kernel⟩
set_option maxRecDepth 100000 in
theorem ok_gX9_append : MethOK gX9_append := ⟨ga_c6 154 rfl rfl, ga_c1 10 (by decide +kernel) rfl, by decide +kernel, ⟨by decide +kernel, by decide +kernel⟩, by decide +kernel⟩
set_option maxRecDepth 100000 in
theorem ok_gX9_block : MethOK gX9_block := ⟨ga_c5 196 rfl rfl, ga_c1 10 (by decide +kernel) rfl, by decide +kernel, ⟨by decide +kernel, by decide +kernel⟩, by decide +kernel⟩
set_option maxRecDepth 100000 in
theorem ok_gX9_boardBreadth : MethOK gX9_boardBreadth := ⟨ga_c5 188 rfl rfl, ga_c1 10 (by decide +kernel) rfl, by decide +kernel, ⟨by decide +kernel, by decide +kernel⟩, by decide +kernel⟩
set_option maxRecDepth 100000 in
theorem ok_gX9_boardLength : MethOK gX9_boardLength := ⟨ga_c5 176 rfl rfl, ga_c1 10 (by decide +kernel) rfl, by decide +kernel, ⟨by decide +kernel, by decide +kernel⟩, by decide +kernel⟩
set_option maxRecDepth 100000 in
theorem ok_gX9_boardShare : MethOK gX9_boardShare := ⟨ga_c6 14 rfl rfl, ga_c1 10 (by decide +kernel) rfl, by decide +kernel, ⟨by decide +kernel, by decide +kernel⟩, by decide +kernel⟩
set_option maxRecDepth 100000 in
theorem ok_gX9_breadthOf : MethOK gX9_breadthOf := ⟨ga_c5 180 rfl rfl, ga_c1 10 (by decide +kernel) rfl, by decide +kernel, ⟨by decide +kernel, by decide +kernel⟩, by decide +kernel⟩
set_option maxRecDepth 100000 in
theorem ok_gX9_buy : MethOK gX9_buy := ⟨ga_c6 77 rfl rfl, ga_c1 10 (by decide +kernel) rfl, by decide +kernel, ⟨by decide +kernel, by decide +kernel⟩, by decide +kernel⟩
set_option maxRecDepth 100000 in
theorem ok_gX9_change : MethOK gX9_change := ⟨ga_c5 151 rfl rfl, ga_c1 10 (by decide +kernel) rfl, by decide +kernel, ⟨by decide +kernel, by decide +kernel⟩, by decide +kernel⟩
set_option maxRecDepth 100000 in
theorem ok_gX9_clothWaste : MethOK gX9_clothWaste := ⟨ga_c6 73 rfl rfl, ga_c1 10 (by decide +kernel) rfl, by decide +kernel, ⟨by decide +kernel, by decide +kernel⟩, by decide +kernel⟩
set_option maxRecDepth 100000 in
theorem ok_gX9_cost : MethOK gX9_cost := ⟨ga_c6 125 rfl rfl, ga_c1 10 (by decide +kernel) rfl, by decide +kernel, ⟨by decide +kernel, by decide +kernel⟩, by decide +kernel⟩
set_option maxRecDepth 100000 in
theorem ok_gX9_dropPrice : MethOK gX9_dropPrice := ⟨ga_c6 105 rfl rfl, ga_c1 10 (by decide +kernel) rfl, by decide +kernel, ⟨by decide +kernel, by decide +kernel⟩, by decide +kernel⟩
set_option maxRecDepth 100000 in
theorem ok_gX9_exchange : MethOK gX9_exchange := ⟨ga_c5 219 rfl rfl, ga_c1 10 (by decide +kernel) rfl, by decide +kernel, ⟨by decide +kernel, by decide +kernel⟩, by decide +kernel⟩
set_option maxRecDepth 100000 in
theorem ok_gX9_faultPosition : MethOK gX9_faultPosition := ⟨ga_c6 174 rfl rfl, ga_c1 10 (by decide +kernel) rfl, by decide +kernel, ⟨by decide +kernel, by decide +kernel⟩, by decide +kernel⟩
set_option maxRecDepth 100000 in
theorem ok_gX9_fit : MethOK gX9_fit := ⟨ga_c6 61 rfl rfl, ga_c1 10 (by decide +kernel) rfl, by decide +kernel, ⟨by decide +kernel, by decide +kernel⟩, by decide +kernel⟩
set_option maxRecDepth 100000 in
theorem ok_gX9_fittedCloth : MethOK gX9_fittedCloth := ⟨ga_c6 57 rfl rfl, ga_c1 10 (by decide +kernel) rfl, by decide +kernel, ⟨by decide +kernel, by decide +kernel⟩, by decide +kernel⟩
set_option maxRecDepth 100000 in
theorem ok_gX9_get : MethOK gX9_get := ⟨ga_c5 143 rfl rfl, ga_c1 10 (by decide +kernel) rfl, by decide +kernel, ⟨by decide +kernel, by decide +kernel⟩, by decide +kernel⟩
set_option maxRecDepth 100000 in
theorem ok_gX9_has : MethOK gX9_has := ⟨ga_c6 45 rfl rfl, ga_c1 10 (by decide +kernel) rfl, by decide +kernel, ⟨by decide +kernel, by decide +kernel⟩, by decide +kernel⟩
set_option maxRecDepth 100000 in
theorem ok_gX9_in : MethOK gX9_in := ⟨ga_c5 139 rfl rfl, ga_c1 10 (by decide +kernel) rfl, by decide +kernel, ⟨by decide +kernel, by decide +kernel⟩, by decide +kernel⟩
set_option maxRecDepth 100000 in
theorem ok_gX9_isBlock : MethOK gX9_isBlock := ⟨ga_c5 133 rfl rfl, ga_c1 10 (by decide +kernel) rfl, by decide +kernel, ⟨by decide +kernel, by decide +kernel⟩, by decide +kernel⟩
set_option maxRecDepth 100000 in
theorem ok_gX9_isBook : MethOK gX9_isBook := ⟨ga_c5 160 rfl rfl, ga_c1 10 (by decide +kernel) rfl, by decide +kernel, ⟨by decide +kernel, by decide +kernel⟩, by decide +kernel⟩
set_option maxRecDepth 100000 in
theorem ok_gX9_isHere : MethOK gX9_isHere := ⟨ga_c6 166 rfl rfl, ga_c1 10 (by decide +kernel) rfl, by decide +kernel, ⟨by decide +kernel, by decide +kernel⟩, by decide +kernel⟩
set_option maxRecDepth 100000 in
theorem ok_gX9_isMaterial : MethOK gX9_isMaterial := ⟨ga_c5 239 rfl rfl, ga_c1 10 (by decide +kernel) rfl, by decide +kernel, ⟨by decide +kernel, by decide +kernel⟩, by decide +kernel⟩
set_option maxRecDepth 100000 in
theorem ok_gX9_isNumber : MethOK gX9_isNumber := ⟨ga_c5 136 rfl rfl, ga_c1 10 (by decide +kernel) rfl, by decide +kernel, ⟨by decide +kernel, by decide +kernel⟩, by decide +kernel⟩
set_option maxRecDepth 100000 in
theorem ok_gX9_isOther : MethOK gX9_isOther := ⟨ga_c5 192 rfl rfl, ga_c1 10 (by decide +kernel) rfl, by decide +kernel, ⟨by decide +kernel, by decide +kernel⟩, by decide +kernel⟩
set_option maxRecDepth 100000 in
theorem ok_gX9_isSettingValue : MethOK gX9_isSettingValue := ⟨ga_c5 203 rfl rfl, ga_c1 10 (by decide +kernel) rfl, by decide +kernel, ⟨by decide +kernel, by decide +kernel⟩, by decide +kernel⟩
set_option maxRecDepth 100000 in
theorem ok_gX9_isTooBroad : MethOK gX9_isTooBroad := ⟨ga_c6 7 rfl rfl, ga_c1 10 (by decide +kernel) rfl, by decide +kernel, ⟨by decide +kernel, by decide +kernel⟩, by decide +kernel⟩
set_option maxRecDepth 100000 in
theorem ok_gX9_leastCloth : MethOK gX9_leastCloth := ⟨ga_c6 38 rfl rfl, ga_c1 10 (by decide +kernel) rfl, by decide +kernel, ⟨by decide +kernel, by decide +kernel⟩, by decide +kernel⟩
set_option maxRecDepth 100000 in
theorem ok_gX9_leastOf : MethOK gX9_leastOf := ⟨ga_c6 49 rfl rfl, ga_c1 10 (by decide +kernel) rfl, by decide +kernel, ⟨by decide +kernel, by decide +kernel⟩, by decide +kernel⟩
set_option maxRecDepth 100000 in
theorem ok_gX9_lengthOf : MethOK gX9_lengthOf := ⟨ga_c5 168 rfl rfl, ga_c1 10 (by decide +kernel) rfl, by decide +kernel, ⟨by decide +kernel, by decide +kernel⟩, by decide +kernel⟩
set_option maxRecDepth 100000 in
theorem ok_gX9_listPrice : MethOK gX9_listPrice := ⟨ga_c6 113 rfl rfl, ga_c1 10 (by decide +kernel) rfl, by decide +kernel, ⟨by decide +kernel, by decide +kernel⟩, by decide +kernel⟩
set_option maxRecDepth 100000 in
theorem ok_gX9_lot : MethOK gX9_lot := ⟨ga_c6 93 rfl rfl, ga_c1 10 (by decide +kernel) rfl, by decide +kernel, ⟨by decide +kernel, by decide +kernel⟩, by decide +kernel⟩
set_option maxRecDepth 100000 in
theorem ok_gX9_lotsOf : MethOK gX9_lotsOf := ⟨ga_c6 81 rfl rfl, ga_c1 10 (by decide +kernel) rfl, by decide +kernel, ⟨by decide +kernel, by decide +kernel⟩, by decide +kernel⟩
set_option maxRecDepth 100000 in
theorem ok_gX9_make : MethOK gX9_make := ⟨ga_c6 129 rfl rfl, ga_c1 10 (by decide +kernel) rfl, by decide +kernel, ⟨by decide +kernel, by decide +kernel⟩, by decide +kernel⟩
set_option maxRecDepth 100000 in
theorem ok_gX9_measure : MethOK gX9_measure := ⟨ga_c5 164 rfl rfl, ga_c1 10 (by decide +kernel) rfl, by decide +kernel, ⟨by decide +kernel, by decide +kernel⟩, by decide +kernel⟩
set_option maxRecDepth 100000 in
theorem ok_gX9_needed : MethOK gX9_needed := ⟨ga_c5 236 rfl rfl, ga_c1 10 (by decide +kernel) rfl, by decide +kernel, ⟨by decide +kernel, by decide +kernel⟩, by decide +kernel⟩
set_option maxRecDepth 100000 in
theorem ok_gX9_number : MethOK gX9_number := ⟨ga_c6 162 rfl rfl, ga_c1 10 (by decide +kernel) rfl, by decide +kernel, ⟨by decide +kernel, by decide +kernel⟩, by decide +kernel⟩
set_option maxRecDepth 100000 in
theorem ok_gX9_of : MethOK gX9_of := ⟨ga_c5 172 rfl rfl, ga_c1 10 (by decide +kernel) rfl, by decide +kernel, ⟨by decide +kernel, by decide +kernel⟩, by decide +kernel⟩
set_option maxRecDepth 100000 in
theorem ok_gX9_oneStrip : MethOK gX9_oneStrip := ⟨ga_c6 53 rfl rfl, ga_c1 10 (by decide +kernel) rfl, by decide +kernel, ⟨by decide +kernel, by decide +kernel⟩, by decide +kernel⟩
set_option maxRecDepth 100000 in
theorem ok_gX9_pass : MethOK gX9_pass := ⟨ga_c6 142 rfl rfl, ga_c1 10 (by decide +kernel) rfl, by decide +kernel, ⟨by decide +kernel, by decide +kernel⟩, by decide +kernel⟩
set_option maxRecDepth 100000 in
theorem ok_gX9_perSheet : MethOK gX9_perSheet := ⟨ga_c5 227 rfl rfl, ga_c1 10 (by decide +kernel) rfl, by decide +kernel, ⟨by decide +kernel, by decide +kernel⟩, by decide +kernel⟩
set_option maxRecDepth 100000 in
theorem ok_gX9_piece : MethOK gX9_piece := ⟨ga_c5 211 rfl rfl, ga_c1 10 (by decide +kernel) rfl, by decide +kernel, ⟨by decide +kernel, by decide +kernel⟩, by decide +kernel⟩
set_option maxRecDepth 100000 in
theorem ok_gX9_placeOf : MethOK gX9_placeOf := ⟨ga_c6 30 rfl rfl, ga_c1 10 (by decide +kernel) rfl, by decide +kernel, ⟨by decide +kernel, by decide +kernel⟩, by decide +kernel⟩
set_option maxRecDepth 100000 in
theorem ok_gX9_price : MethOK gX9_price := ⟨ga_c6 109 rfl rfl, ga_c1 10 (by decide +kernel) rfl, by decide +kernel, ⟨by decide +kernel, by decide +kernel⟩, by decide +kernel⟩
set_option maxRecDepth 100000 in
theorem ok_gX9_priceAt : MethOK gX9_priceAt := ⟨ga_c6 101 rfl rfl, ga_c1 10 (by decide +kernel) rfl, by decide +kernel, ⟨by decide +kernel, by decide +kernel⟩, by decide +kernel⟩
set_option maxRecDepth 100000 in
theorem ok_gX9_readBook : MethOK gX9_readBook := ⟨ga_c6 158 rfl rfl, ga_c1 10 (by decide +kernel) rfl, by decide +kernel, ⟨by decide +kernel, by decide +kernel⟩, by decide +kernel⟩
set_option maxRecDepth 100000 in
theorem ok_gX9_refusal : MethOK gX9_refusal := ⟨ga_c6 138 rfl rfl, ga_c1 10 (by decide +kernel) rfl, by decide +kernel, ⟨by decide +kernel, by decide +kernel⟩, by decide +kernel⟩
set_option maxRecDepth 100000 in
theorem ok_gX9_refusalOf : MethOK gX9_refusalOf := ⟨ga_c6 42 rfl rfl, ga_c1 10 (by decide +kernel) rfl, by decide +kernel, ⟨by decide +kernel, by decide +kernel⟩, by decide +kernel⟩
set_option maxRecDepth 100000 in
theorem ok_gX9_refusalOfBook : MethOK gX9_refusalOfBook := ⟨ga_c6 121 rfl rfl, ga_c1 10 (by decide +kernel) rfl, by decide +kernel, ⟨by decide +kernel, by decide +kernel⟩, by decide +kernel⟩
set_option maxRecDepth 100000 in
theorem ok_gX9_restore : MethOK gX9_restore := ⟨ga_c6 186 rfl rfl, ga_c1 10 (by decide +kernel) rfl, by decide +kernel, ⟨by decide +kernel, by decide +kernel⟩, by decide +kernel⟩
set_option maxRecDepth 100000 in
theorem ok_gX9_save : MethOK gX9_save := ⟨ga_c6 182 rfl rfl, ga_c1 10 (by decide +kernel) rfl, by decide +kernel, ⟨by decide +kernel, by decide +kernel⟩, by decide +kernel⟩
set_option maxRecDepth 100000 in
theorem ok_gX9_set : MethOK gX9_set := ⟨ga_c5 200 rfl rfl, ga_c1 10 (by decide +kernel) rfl, by decide +kernel, ⟨by decide +kernel, by decide +kernel⟩, by decide +kernel⟩
set_option maxRecDepth 100000 in
theorem ok_gX9_setBlock : MethOK gX9_setBlock := ⟨ga_c5 156 rfl rfl, ga_c1 10 (by decide +kernel) rfl, by decide +kernel, ⟨by decide +kernel, by decide +kernel⟩, by decide +kernel⟩
set_option maxRecDepth 100000 in
theorem ok_gX9_setPrice : MethOK gX9_setPrice := ⟨ga_c6 97 rfl rfl, ga_c1 10 (by decide +kernel) rfl, by decide +kernel, ⟨by decide +kernel, by decide +kernel⟩, by decide +kernel⟩
set_option maxRecDepth 100000 in
theorem ok_gX9_setSheet : MethOK gX9_setSheet := ⟨ga_c5 215 rfl rfl, ga_c1 10 (by decide +kernel) rfl, by decide +kernel, ⟨by decide +kernel, by decide +kernel⟩, by decide +kernel⟩
set_option maxRecDepth 100000 in
theorem ok_gX9_setting : MethOK gX9_setting := ⟨ga_c5 207 rfl rfl, ga_c1 10 (by decide +kernel) rfl, by decide +kernel, ⟨by decide +kernel, by decide +kernel⟩, by decide +kernel⟩
set_option maxRecDepth 100000 in
theorem ok_gX9_sheet : MethOK gX9_sheet := ⟨ga_c5 223 rfl rfl, ga_c1 10 (by decide +kernel) rfl, by decide +kernel, ⟨by decide +kernel, by decide +kernel⟩, by decide +kernel⟩
set_option maxRecDepth 100000 in
theorem ok_gX9_sign : MethOK gX9_sign := ⟨ga_c6 170 rfl rfl, ga_c1 10 (by decide +kernel) rfl, by decide +kernel, ⟨by decide +kernel, by decide +kernel⟩, by decide +kernel⟩
set_option maxRecDepth 100000 in
theorem ok_gX9_spineBreadth : MethOK gX9_spineBreadth := ⟨ga_c5 184 rfl rfl, ga_c1 10 (by decide +kernel) rfl, by decide +kernel, ⟨by decide +kernel, by decide +kernel⟩, by decide +kernel⟩
set_option maxRecDepth 100000 in
theorem ok_gX9_station : MethOK gX9_station := ⟨ga_c6 26 rfl rfl, ga_c1 10 (by decide +kernel) rfl, by decide +kernel, ⟨by decide +kernel, by decide +kernel⟩, by decide +kernel⟩
set_option maxRecDepth 100000 in
theorem ok_gX9_stock : MethOK gX9_stock := ⟨ga_c6 85 rfl rfl, ga_c1 10 (by decide +kernel) rfl, by decide +kernel, ⟨by decide +kernel, by decide +kernel⟩, by decide +kernel⟩
set_option maxRecDepth 100000 in
theorem ok_gX9_stockOf : MethOK gX9_stockOf := ⟨ga_c6 89 rfl rfl, ga_c1 10 (by decide +kernel) rfl, by decide +kernel, ⟨by decide +kernel, by decide +kernel⟩, by decide +kernel⟩
set_option maxRecDepth 100000 in
theorem ok_gX9_strip : MethOK gX9_strip := ⟨ga_c6 65 rfl rfl, ga_c1 10 (by decide +kernel) rfl, by decide +kernel, ⟨by decide +kernel, by decide +kernel⟩, by decide +kernel⟩
set_option maxRecDepth 100000 in
theorem ok_gX9_strips : MethOK gX9_strips := ⟨ga_c6 69 rfl rfl, ga_c1 10 (by decide +kernel) rfl, by decide +kernel, ⟨by decide +kernel, by decide +kernel⟩, by decide +kernel⟩
set_option maxRecDepth 100000 in
theorem ok_gX9_tapes : MethOK gX9_tapes := ⟨ga_c6 18 rfl rfl, ga_c1 10 (by decide +kernel) rfl, by decide +kernel, ⟨by decide +kernel, by decide +kernel⟩, by decide +kernel⟩
set_option maxRecDepth 100000 in
theorem ok_gX9_tapesOf : MethOK gX9_tapesOf := ⟨ga_c6 22 rfl rfl, ga_c1 10 (by decide +kernel) rfl, by decide +kernel, ⟨by decide +kernel, by decide +kernel⟩, by decide +kernel⟩
set_option maxRecDepth 100000 in
theorem ok_gX9_thrown : MethOK gX9_thrown := ⟨ga_c5 126 rfl rfl, ga_c1 10 (by decide +kernel) rfl, by decide +kernel, ⟨by decide +kernel, by decide +kernel⟩, by decide +kernel⟩
set_option maxRecDepth 100000 in
theorem ok_gX9_undo : MethOK gX9_undo := ⟨ga_c6 178 rfl rfl, ga_c1 10 (by decide +kernel) rfl, by decide +kernel, ⟨by decide +kernel, by decide +kernel⟩, by decide +kernel⟩
set_option maxRecDepth 100000 in
theorem ok_gX9_unitsOf : MethOK gX9_unitsOf := ⟨ga_c6 3 rfl rfl, ga_c1 10 (by decide +kernel) rfl, by decide +kernel, ⟨by decide +kernel, by decide +kernel⟩, by decide +kernel⟩
set_option maxRecDepth 100000 in
theorem ok_gX9_up : MethOK gX9_up := ⟨ga_c6 10 rfl rfl, ga_c1 10 (by decide +kernel) rfl, by decide +kernel, ⟨by decide +kernel, by decide +kernel⟩, by decide +kernel⟩
set_option maxRecDepth 100000 in
theorem ok_gX9_use : MethOK gX9_use := ⟨ga_c6 133 rfl rfl, ga_c1 10 (by decide +kernel) rfl, by decide +kernel, ⟨by decide +kernel, by decide +kernel⟩, by decide +kernel⟩
set_option maxRecDepth 100000 in
theorem ok_gX9_widestGap : MethOK gX9_widestGap := ⟨ga_c6 34 rfl rfl, ga_c1 10 (by decide +kernel) rfl, by decide +kernel, ⟨by decide +kernel, by decide +kernel⟩, by decide +kernel⟩
set_option maxRecDepth 100000 in
theorem ok_gX9_worth : MethOK gX9_worth := ⟨ga_c6 150 rfl rfl, ga_c1 10 (by decide +kernel) rfl, by decide +kernel, ⟨by decide +kernel, by decide +kernel⟩, by decide +kernel⟩
set_option maxRecDepth 100000 in
theorem ok_gX9_wouldRefuse : MethOK gX9_wouldRefuse := ⟨ga_c6 117 rfl rfl, ga_c1 10 (by decide +kernel) rfl, by decide +kernel, ⟨by decide +kernel, by decide +kernel⟩, by decide +kernel⟩
set_option maxRecDepth 100000 in
theorem ok_gX9_yieldOf : MethOK gX9_yieldOf := ⟨ga_c5 231 rfl rfl, ga_c1 10 (by decide +kernel) rfl, by decide +kernel, ⟨by decide +kernel, by decide +kernel⟩, by decide +kernel⟩
set_option maxRecDepth 100000 in
theorem ok_gL_account : MethOK gL_account := ⟨ga_c4 215 rfl rfl, ga_c1 0 (by decide +kernel) rfl, by decide +kernel, ⟨by decide +kernel, by decide +kernel⟩, by decide +kernel⟩
set_option maxRecDepth 100000 in
theorem ok_gL_addBook : MethOK gL_addBook := ⟨ga_c2 45 rfl rfl, ga_c1 0 (by decide +kernel) rfl, by decide +kernel, ⟨by decide +kernel, by decide +kernel⟩, by decide +kernel⟩
set_option maxRecDepth 100000 in
theorem ok_gL_append : MethOK gL_append := ⟨ga_c4 227 rfl rfl, ga_c1 0 (by decide +kernel) rfl, by decide +kernel, ⟨by decide +kernel, by decide +kernel⟩, by decide +kernel⟩
set_option maxRecDepth 100000 in
theorem ok_gL_block : MethOK gL_block := ⟨ga_c2 239 rfl rfl, ga_c1 0 (by decide +kernel) rfl, by decide +kernel, ⟨by decide +kernel, by decide +kernel⟩, by decide +kernel⟩
set_option maxRecDepth 100000 in
theorem ok_gL_boardShare : MethOK gL_boardShare := ⟨ga_c3 180 rfl rfl, ga_c1 0 (by decide +kernel) rfl, by decide +kernel, ⟨by decide +kernel, by decide +kernel⟩, by decide +kernel⟩
set_option maxRecDepth 100000 in
theorem ok_gL_buy : MethOK gL_buy := ⟨ga_c4 86 rfl rfl, ga_c1 0 (by decide +kernel) rfl, by decide +kernel, ⟨by decide +kernel, by decide +kernel⟩, by decide +kernel⟩
set_option maxRecDepth 100000 in
theorem ok_gL_clothWaste : MethOK gL_clothWaste := ⟨ga_c4 74 rfl rfl, ga_c1 0 (by decide +kernel) rfl, by decide +kernel, ⟨by decide +kernel, by decide +kernel⟩, by decide +kernel⟩
set_option maxRecDepth 100000 in
theorem ok_gL_cost : MethOK gL_cost := ⟨ga_c4 168 rfl rfl, ga_c1 0 (by decide +kernel) rfl, by decide +kernel, ⟨by decide +kernel, by decide +kernel⟩, by decide +kernel⟩
set_option maxRecDepth 100000 in
theorem ok_gL_dropPrice : MethOK gL_dropPrice := ⟨ga_c4 144 rfl rfl, ga_c1 0 (by decide +kernel) rfl, by decide +kernel, ⟨by decide +kernel, by decide +kernel⟩, by decide +kernel⟩
set_option maxRecDepth 100000 in
theorem ok_gL_fittedCloth : MethOK gL_fittedCloth := ⟨ga_c4 40 rfl rfl, ga_c1 0 (by decide +kernel) rfl, by decide +kernel, ⟨by decide +kernel, by decide +kernel⟩, by decide +kernel⟩
set_option maxRecDepth 100000 in
theorem ok_gL_leastCloth : MethOK gL_leastCloth := ⟨ga_c4 3 rfl rfl, ga_c1 0 (by decide +kernel) rfl, by decide +kernel, ⟨by decide +kernel, by decide +kernel⟩, by decide +kernel⟩
set_option maxRecDepth 100000 in
theorem ok_gL_lot : MethOK gL_lot := ⟨ga_c4 114 rfl rfl, ga_c1 0 (by decide +kernel) rfl, by decide +kernel, ⟨by decide +kernel, by decide +kernel⟩, by decide +kernel⟩
set_option maxRecDepth 100000 in
theorem ok_gL_make : MethOK gL_make := ⟨ga_c4 177 rfl rfl, ga_c1 0 (by decide +kernel) rfl, by decide +kernel, ⟨by decide +kernel, by decide +kernel⟩, by decide +kernel⟩
set_option maxRecDepth 100000 in
theorem ok_gL_needed : MethOK gL_needed := ⟨ga_c3 151 rfl rfl, ga_c1 0 (by decide +kernel) rfl, by decide +kernel, ⟨by decide +kernel, by decide +kernel⟩, by decide +kernel⟩
set_option maxRecDepth 100000 in
theorem ok_gL_pass : MethOK gL_pass := ⟨ga_c4 206 rfl rfl, ga_c1 0 (by decide +kernel) rfl, by decide +kernel, ⟨by decide +kernel, by decide +kernel⟩, by decide +kernel⟩
set_option maxRecDepth 100000 in
theorem ok_gL_perSheet : MethOK gL_perSheet := ⟨ga_c3 126 rfl rfl, ga_c1 0 (by decide +kernel) rfl, by decide +kernel, ⟨by decide +kernel, by decide +kernel⟩, by decide +kernel⟩
set_option maxRecDepth 100000 in
theorem ok_gL_piece : MethOK gL_piece := ⟨ga_c3 37 rfl rfl, ga_c1 0 (by decide +kernel) rfl, by decide +kernel, ⟨by decide +kernel, by decide +kernel⟩, by decide +kernel⟩
set_option maxRecDepth 100000 in
theorem ok_gL_price : MethOK gL_price := ⟨ga_c4 156 rfl rfl, ga_c1 0 (by decide +kernel) rfl, by decide +kernel, ⟨by decide +kernel, by decide +kernel⟩, by decide +kernel⟩
set_option maxRecDepth 100000 in
theorem ok_gL_readBook : MethOK gL_readBook := ⟨ga_c4 239 rfl rfl, ga_c1 0 (by decide +kernel) rfl, by decide +kernel, ⟨by decide +kernel, by decide +kernel⟩, by decide +kernel⟩
set_option maxRecDepth 100000 in
theorem ok_gL_refusal : MethOK gL_refusal := ⟨ga_c4 198 rfl rfl, ga_c1 0 (by decide +kernel) rfl, by decide +kernel, ⟨by decide +kernel, by decide +kernel⟩, by decide +kernel⟩
set_option maxRecDepth 100000 in
theorem ok_gL_restore : MethOK gL_restore := ⟨ga_c5 43 rfl rfl, ga_c1 0 (by decide +kernel) rfl, by decide +kernel, ⟨by decide +kernel, by decide +kernel⟩, by decide +kernel⟩
set_option maxRecDepth 100000 in
theorem ok_gL_set : MethOK gL_set := ⟨ga_c3 8 rfl rfl, ga_c1 0 (by decide +kernel) rfl, by decide +kernel, ⟨by decide +kernel, by decide +kernel⟩, by decide +kernel⟩
set_option maxRecDepth 100000 in
theorem ok_gL_setBlock : MethOK gL_setBlock := ⟨ga_c2 169 rfl rfl, ga_c1 0 (by decide +kernel) rfl, by decide +kernel, ⟨by decide +kernel, by decide +kernel⟩, by decide +kernel⟩
set_option maxRecDepth 100000 in
theorem ok_gL_setPrice : MethOK gL_setPrice := ⟨ga_c4 126 rfl rfl, ga_c1 0 (by decide +kernel) rfl, by decide +kernel, ⟨by decide +kernel, by decide +kernel⟩, by decide +kernel⟩
set_option maxRecDepth 100000 in
theorem ok_gL_setSheet : MethOK gL_setSheet := ⟨ga_c3 98 rfl rfl, ga_c1 0 (by decide +kernel) rfl, by decide +kernel, ⟨by decide +kernel, by decide +kernel⟩, by decide +kernel⟩
set_option maxRecDepth 100000 in
theorem ok_gL_setting : MethOK gL_setting := ⟨ga_c3 30 rfl rfl, ga_c1 0 (by decide +kernel) rfl, by decide +kernel, ⟨by decide +kernel, by decide +kernel⟩, by decide +kernel⟩
set_option maxRecDepth 100000 in
theorem ok_gL_sheet : MethOK gL_sheet := ⟨ga_c3 118 rfl rfl, ga_c1 0 (by decide +kernel) rfl, by decide +kernel, ⟨by decide +kernel, by decide +kernel⟩, by decide +kernel⟩
set_option maxRecDepth 100000 in
theorem ok_gL_station : MethOK gL_station := ⟨ga_c3 215 rfl rfl, ga_c1 0 (by decide +kernel) rfl, by decide +kernel, ⟨by decide +kernel, by decide +kernel⟩, by decide +kernel⟩
set_option maxRecDepth 100000 in
theorem ok_gL_stock : MethOK gL_stock := ⟨ga_c4 106 rfl rfl, ga_c1 0 (by decide +kernel) rfl, by decide +kernel, ⟨by decide +kernel, by decide +kernel⟩, by decide +kernel⟩
set_option maxRecDepth 100000 in
theorem ok_gL_strip : MethOK gL_strip := ⟨ga_c4 55 rfl rfl, ga_c1 0 (by decide +kernel) rfl, by decide +kernel, ⟨by decide +kernel, by decide +kernel⟩, by decide +kernel⟩
set_option maxRecDepth 100000 in
theorem ok_gL_strips : MethOK gL_strips := ⟨ga_c4 67 rfl rfl, ga_c1 0 (by decide +kernel) rfl, by decide +kernel, ⟨by decide +kernel, by decide +kernel⟩, by decide +kernel⟩
set_option maxRecDepth 100000 in
theorem ok_gL_tapes : MethOK gL_tapes := ⟨ga_c3 205 rfl rfl, ga_c1 0 (by decide +kernel) rfl, by decide +kernel, ⟨by decide +kernel, by decide +kernel⟩, by decide +kernel⟩
set_option maxRecDepth 100000 in
theorem ok_gL_undo : MethOK gL_undo := ⟨ga_c5 31 rfl rfl, ga_c1 0 (by decide +kernel) rfl, by decide +kernel, ⟨by decide +kernel, by decide +kernel⟩, by decide +kernel⟩
set_option maxRecDepth 100000 in
theorem ok_gL_widestGap : MethOK gL_widestGap := ⟨ga_c3 231 rfl rfl, ga_c1 0 (by decide +kernel) rfl, by decide +kernel, ⟨by decide +kernel, by decide +kernel⟩, by decide +kernel⟩
set_option maxRecDepth 100000 in
theorem ok_gL_wouldRefuse : MethOK gL_wouldRefuse := ⟨ga_c3 50 rfl rfl, ga_c1 0 (by decide +kernel) rfl, by decide +kernel, ⟨by decide +kernel, by decide +kernel⟩, by decide +kernel⟩
set_option maxRecDepth 100000 in
theorem ok_gJ6_bitCount_0f7a4 : MethOK gJ6_bitCount_0f7a4 := ⟨ga_c3 24 rfl rfl, ga_c1 20 (by decide +kernel) rfl, by decide +kernel, ⟨by decide +kernel, by decide +kernel⟩, by decide +kernel⟩
def bkT_0 : List (Nat × bkL) := [(3, kB 3), (9, kF 0 0), (15, kF 0 1), (19, kF 0 2), (23, kF 0 3), (26, kF 0 4), (29, kM gX0_readBlock), (33, kM gX0_readCopies), (36, kM gX0_readNumber), (40, kM gX0_readSign), (44, kM gX0_isDigitAt)]
theorem lk_0_3 : LinkOK 0 3 (kB 3) := ga_c1 215 (by decide +kernel) rfl
theorem lk_0_9 : LinkOK 0 9 (kF 0 0) := ⟨_, _, _, rfl, by decide, ga_c1 216 (by decide +kernel) rfl⟩
theorem lk_0_15 : LinkOK 0 15 (kF 0 1) := ⟨_, _, _, rfl, by decide, ga_c1 217 (by decide +kernel) rfl⟩
theorem lk_0_19 : LinkOK 0 19 (kF 0 2) := ⟨_, _, _, rfl, by decide, ga_c1 219 (by decide +kernel) rfl⟩
theorem lk_0_23 : LinkOK 0 23 (kF 0 3) := ⟨_, _, _, rfl, by decide, ga_c1 220 (by decide +kernel) rfl⟩
theorem lk_0_26 : LinkOK 0 26 (kF 0 4) := ⟨_, _, _, rfl, by decide, ga_c1 222 (by decide +kernel) rfl⟩
theorem lk_0_29 : LinkOK 0 29 (kM gX0_readBlock) := ⟨ok_gX0_readBlock, Or.inr ⟨ga_c5 10 (by decide +kernel) rfl, by decide +kernel, Or.inl ⟨ga_c5 8 (by decide +kernel) rfl, ga_c0 10 (by decide +kernel) rfl, by decide +kernel⟩⟩⟩
theorem lk_0_33 : LinkOK 0 33 (kM gX0_readCopies) := ⟨ok_gX0_readCopies, Or.inr ⟨ga_c5 26 (by decide +kernel) rfl, by decide +kernel, Or.inl ⟨ga_c5 24 (by decide +kernel) rfl, ga_c0 14 (by decide +kernel) rfl, by decide +kernel⟩⟩⟩
theorem lk_0_36 : LinkOK 0 36 (kM gX0_readNumber) := ⟨ok_gX0_readNumber, Or.inr ⟨ga_c5 14 (by decide +kernel) rfl, by decide +kernel, Or.inl ⟨ga_c5 12 (by decide +kernel) rfl, ga_c0 11 (by decide +kernel) rfl, by decide +kernel⟩⟩⟩
theorem lk_0_40 : LinkOK 0 40 (kM gX0_readSign) := ⟨ok_gX0_readSign, Or.inr ⟨ga_c5 22 (by decide +kernel) rfl, by decide +kernel, Or.inl ⟨ga_c5 20 (by decide +kernel) rfl, ga_c0 13 (by decide +kernel) rfl, by decide +kernel⟩⟩⟩
theorem lk_0_44 : LinkOK 0 44 (kM gX0_isDigitAt) := ⟨ok_gX0_isDigitAt, Or.inr ⟨ga_c5 18 (by decide +kernel) rfl, by decide +kernel, Or.inl ⟨ga_c5 16 (by decide +kernel) rfl, ga_c0 12 (by decide +kernel) rfl, by decide +kernel⟩⟩⟩
theorem bkT_0_ok : ∀ q ∈ bkT_0, LinkOK 0 q.1 q.2 := by
  unfold bkT_0
  exact List.forall_mem_cons.mpr ⟨lk_0_3, List.forall_mem_cons.mpr ⟨lk_0_9, List.forall_mem_cons.mpr ⟨lk_0_15, List.forall_mem_cons.mpr ⟨lk_0_19, List.forall_mem_cons.mpr ⟨lk_0_23, List.forall_mem_cons.mpr ⟨lk_0_26, List.forall_mem_cons.mpr ⟨lk_0_29, List.forall_mem_cons.mpr ⟨lk_0_33, List.forall_mem_cons.mpr ⟨lk_0_36, List.forall_mem_cons.mpr ⟨lk_0_40, List.forall_mem_cons.mpr ⟨lk_0_44, (fun _ h => nomatch h)⟩⟩⟩⟩⟩⟩⟩⟩⟩⟩⟩
def bkT_1 : List (Nat × bkL) := [(3, kB 3), (9, kF 1 0), (15, kF 1 1), (18, kF 1 2), (21, kF 1 3), (24, kF 1 4), (27, kF 1 5), (30, kF 1 6), (33, kF 1 7), (37, kF 1 8), (40, kF 1 9), (43, kF 1 10), (46, kF 5 1), (51, kF 5 6), (54, kM gX5_pieceLength), (58, kM gX5_pieceBreadth), (61, kM gX1_layCloth), (65, kM gX1_firstStripWith), (69, kM gX1_longestOf), (72, kM gX1_leastLengthOf), (75, kM gJ6_bitCount_0f7a4), (80, kB 1)]
theorem lk_1_3 : LinkOK 1 3 (kB 3) := ga_c1 173 (by decide +kernel) rfl
theorem lk_1_9 : LinkOK 1 9 (kF 1 0) := ⟨_, _, _, rfl, by decide, ga_c1 174 (by decide +kernel) rfl⟩
theorem lk_1_15 : LinkOK 1 15 (kF 1 1) := ⟨_, _, _, rfl, by decide, ga_c1 175 (by decide +kernel) rfl⟩
theorem lk_1_18 : LinkOK 1 18 (kF 1 2) := ⟨_, _, _, rfl, by decide, ga_c1 176 (by decide +kernel) rfl⟩
theorem lk_1_21 : LinkOK 1 21 (kF 1 3) := ⟨_, _, _, rfl, by decide, ga_c1 177 (by decide +kernel) rfl⟩
theorem lk_1_24 : LinkOK 1 24 (kF 1 4) := ⟨_, _, _, rfl, by decide, ga_c1 178 (by decide +kernel) rfl⟩
theorem lk_1_27 : LinkOK 1 27 (kF 1 5) := ⟨_, _, _, rfl, by decide, ga_c1 179 (by decide +kernel) rfl⟩
theorem lk_1_30 : LinkOK 1 30 (kF 1 6) := ⟨_, _, _, rfl, by decide, ga_c1 180 (by decide +kernel) rfl⟩
theorem lk_1_33 : LinkOK 1 33 (kF 1 7) := ⟨_, _, _, rfl, by decide, ga_c1 181 (by decide +kernel) rfl⟩
theorem lk_1_37 : LinkOK 1 37 (kF 1 8) := ⟨_, _, _, rfl, by decide, ga_c1 182 (by decide +kernel) rfl⟩
theorem lk_1_40 : LinkOK 1 40 (kF 1 9) := ⟨_, _, _, rfl, by decide, ga_c1 183 (by decide +kernel) rfl⟩
theorem lk_1_43 : LinkOK 1 43 (kF 1 10) := ⟨_, _, _, rfl, by decide, ga_c1 185 (by decide +kernel) rfl⟩
theorem lk_1_46 : LinkOK 1 46 (kF 5 1) := ⟨_, _, _, rfl, by decide, ga_c1 90 (by decide +kernel) rfl⟩
theorem lk_1_51 : LinkOK 1 51 (kF 5 6) := ⟨_, _, _, rfl, by decide, ga_c1 101 (by decide +kernel) rfl⟩
theorem lk_1_54 : LinkOK 1 54 (kM gX5_pieceLength) := ⟨ok_gX5_pieceLength, Or.inr ⟨ga_c2 221 (by decide +kernel) rfl, by decide +kernel, Or.inl ⟨ga_c4 19 (by decide +kernel) rfl, ga_c2 222 (by decide +kernel) rfl, by decide +kernel⟩⟩⟩
theorem lk_1_58 : LinkOK 1 58 (kM gX5_pieceBreadth) := ⟨ok_gX5_pieceBreadth, Or.inr ⟨ga_c2 229 (by decide +kernel) rfl, by decide +kernel, Or.inl ⟨ga_c4 20 (by decide +kernel) rfl, ga_c2 230 (by decide +kernel) rfl, by decide +kernel⟩⟩⟩
theorem lk_1_61 : LinkOK 1 61 (kM gX1_layCloth) := ⟨ok_gX1_layCloth, Or.inr ⟨ga_c4 23 (by decide +kernel) rfl, by decide +kernel, Or.inl ⟨ga_c4 21 (by decide +kernel) rfl, ga_c0 6 (by decide +kernel) rfl, by decide +kernel⟩⟩⟩
theorem lk_1_65 : LinkOK 1 65 (kM gX1_firstStripWith) := ⟨ok_gX1_firstStripWith, Or.inr ⟨ga_c4 51 (by decide +kernel) rfl, by decide +kernel, Or.inl ⟨ga_c4 49 (by decide +kernel) rfl, ga_c0 8 (by decide +kernel) rfl, by decide +kernel⟩⟩⟩
theorem lk_1_69 : LinkOK 1 69 (kM gX1_longestOf) := ⟨ok_gX1_longestOf, Or.inl ⟨ga_c4 29 (by decide +kernel) rfl, ga_c4 30 (by decide +kernel) rfl, by decide +kernel⟩⟩
theorem lk_1_72 : LinkOK 1 72 (kM gX1_leastLengthOf) := ⟨ok_gX1_leastLengthOf, Or.inr ⟨ga_c4 35 (by decide +kernel) rfl, by decide +kernel, Or.inl ⟨ga_c4 33 (by decide +kernel) rfl, ga_c0 7 (by decide +kernel) rfl, by decide +kernel⟩⟩⟩
theorem lk_1_75 : LinkOK 1 75 (kM gJ6_bitCount_0f7a4) := ⟨ok_gJ6_bitCount_0f7a4, Or.inl ⟨ga_c4 32 (by decide +kernel) rfl, ga_c3 23 (by decide +kernel) rfl, by decide +kernel⟩⟩
theorem lk_1_80 : LinkOK 1 80 (kB 1) := ga_c4 37 (by decide +kernel) rfl
theorem bkT_1_ok : ∀ q ∈ bkT_1, LinkOK 1 q.1 q.2 := by
  unfold bkT_1
  exact List.forall_mem_cons.mpr ⟨lk_1_3, List.forall_mem_cons.mpr ⟨lk_1_9, List.forall_mem_cons.mpr ⟨lk_1_15, List.forall_mem_cons.mpr ⟨lk_1_18, List.forall_mem_cons.mpr ⟨lk_1_21, List.forall_mem_cons.mpr ⟨lk_1_24, List.forall_mem_cons.mpr ⟨lk_1_27, List.forall_mem_cons.mpr ⟨lk_1_30, List.forall_mem_cons.mpr ⟨lk_1_33, List.forall_mem_cons.mpr ⟨lk_1_37, List.forall_mem_cons.mpr ⟨lk_1_40, List.forall_mem_cons.mpr ⟨lk_1_43, List.forall_mem_cons.mpr ⟨lk_1_46, List.forall_mem_cons.mpr ⟨lk_1_51, List.forall_mem_cons.mpr ⟨lk_1_54, List.forall_mem_cons.mpr ⟨lk_1_58, List.forall_mem_cons.mpr ⟨lk_1_61, List.forall_mem_cons.mpr ⟨lk_1_65, List.forall_mem_cons.mpr ⟨lk_1_69, List.forall_mem_cons.mpr ⟨lk_1_72, List.forall_mem_cons.mpr ⟨lk_1_75, List.forall_mem_cons.mpr ⟨lk_1_80, (fun _ h => nomatch h)⟩⟩⟩⟩⟩⟩⟩⟩⟩⟩⟩⟩⟩⟩⟩⟩⟩⟩⟩⟩⟩⟩
def bkT_2 : List (Nat × bkL) := [(3, kB 3), (9, kC 5), (11, kF 2 0), (17, kF 2 1), (21, kF 2 2), (24, kM gX5_init), (25, kM gX5_copyFrom), (29, kB 1)]
theorem lk_2_3 : LinkOK 2 3 (kB 3) := ga_c1 140 (by decide +kernel) rfl
theorem lk_2_9 : LinkOK 2 9 (kC 5) := ⟨_, _, _, rfl, ga_c1 141 (by decide +kernel) rfl, ga_c1 34 (by decide +kernel) rfl, ga_c1 2 (by decide +kernel) rfl⟩
theorem lk_2_11 : LinkOK 2 11 (kF 2 0) := ⟨_, _, _, rfl, by decide, ga_c1 144 (by decide +kernel) rfl⟩
theorem lk_2_17 : LinkOK 2 17 (kF 2 1) := ⟨_, _, _, rfl, by decide, ga_c1 145 (by decide +kernel) rfl⟩
theorem lk_2_21 : LinkOK 2 21 (kF 2 2) := ⟨_, _, _, rfl, by decide, ga_c1 146 (by decide +kernel) rfl⟩
theorem lk_2_24 : LinkOK 2 24 (kM gX5_init) := ⟨ok_gX5_init, Or.inr ⟨ga_c1 36 (by decide +kernel) rfl, by decide +kernel, Or.inr ⟨by decide +kernel, rfl, rfl, Or.inl (ga_c1 143 (by decide +kernel) rfl)⟩⟩⟩
theorem lk_2_25 : LinkOK 2 25 (kM gX5_copyFrom) := ⟨ok_gX5_copyFrom, Or.inr ⟨ga_c2 30 (by decide +kernel) rfl, by decide +kernel, Or.inl ⟨ga_c2 155 (by decide +kernel) rfl, ga_c2 31 (by decide +kernel) rfl, by decide +kernel⟩⟩⟩
theorem lk_2_29 : LinkOK 2 29 (kB 1) := ga_c2 156 (by decide +kernel) rfl
theorem bkT_2_ok : ∀ q ∈ bkT_2, LinkOK 2 q.1 q.2 := by
  unfold bkT_2
  exact List.forall_mem_cons.mpr ⟨lk_2_3, List.forall_mem_cons.mpr ⟨lk_2_9, List.forall_mem_cons.mpr ⟨lk_2_11, List.forall_mem_cons.mpr ⟨lk_2_17, List.forall_mem_cons.mpr ⟨lk_2_21, List.forall_mem_cons.mpr ⟨lk_2_24, List.forall_mem_cons.mpr ⟨lk_2_25, List.forall_mem_cons.mpr ⟨lk_2_29, (fun _ h => nomatch h)⟩⟩⟩⟩⟩⟩⟩⟩
def bkT_3 : List (Nat × bkL) := [(3, kB 3), (9, kF 3 0), (15, kF 3 1), (18, kF 3 2), (21, kF 3 3), (25, kB 2), (31, kB 1), (37, kM gX3_dropEmptyLots)]
theorem lk_3_3 : LinkOK 3 3 (kB 3) := ga_c1 44 (by decide +kernel) rfl
theorem lk_3_9 : LinkOK 3 9 (kF 3 0) := ⟨_, _, _, rfl, by decide, ga_c1 45 (by decide +kernel) rfl⟩
theorem lk_3_15 : LinkOK 3 15 (kF 3 1) := ⟨_, _, _, rfl, by decide, ga_c1 46 (by decide +kernel) rfl⟩
theorem lk_3_18 : LinkOK 3 18 (kF 3 2) := ⟨_, _, _, rfl, by decide, ga_c1 48 (by decide +kernel) rfl⟩
theorem lk_3_21 : LinkOK 3 21 (kF 3 3) := ⟨_, _, _, rfl, by decide, ga_c1 50 (by decide +kernel) rfl⟩
theorem lk_3_25 : LinkOK 3 25 (kB 2) := ga_c2 37 (by decide +kernel) rfl
theorem lk_3_31 : LinkOK 3 31 (kB 1) := ga_c4 191 (by decide +kernel) rfl
theorem lk_3_37 : LinkOK 3 37 (kM gX3_dropEmptyLots) := ⟨ok_gX3_dropEmptyLots, Or.inr ⟨ga_c4 194 (by decide +kernel) rfl, by decide +kernel, Or.inl ⟨ga_c4 192 (by decide +kernel) rfl, ga_c0 9 (by decide +kernel) rfl, by decide +kernel⟩⟩⟩
theorem bkT_3_ok : ∀ q ∈ bkT_3, LinkOK 3 q.1 q.2 := by
  unfold bkT_3
  exact List.forall_mem_cons.mpr ⟨lk_3_3, List.forall_mem_cons.mpr ⟨lk_3_9, List.forall_mem_cons.mpr ⟨lk_3_15, List.forall_mem_cons.mpr ⟨lk_3_18, List.forall_mem_cons.mpr ⟨lk_3_21, List.forall_mem_cons.mpr ⟨lk_3_25, List.forall_mem_cons.mpr ⟨lk_3_31, List.forall_mem_cons.mpr ⟨lk_3_37, (fun _ h => nomatch h)⟩⟩⟩⟩⟩⟩⟩⟩
def bkT_4 : List (Nat × bkL) := [(3, kB 3), (9, kF 4 0), (15, kF 4 1), (18, kF 5 6), (24, kM gX5_pieceLength), (28, kM gX5_pieceBreadth)]
theorem lk_4_3 : LinkOK 4 3 (kB 3) := ga_c1 160 (by decide +kernel) rfl
theorem lk_4_9 : LinkOK 4 9 (kF 4 0) := ⟨_, _, _, rfl, by decide, ga_c1 161 (by decide +kernel) rfl⟩
theorem lk_4_15 : LinkOK 4 15 (kF 4 1) := ⟨_, _, _, rfl, by decide, ga_c1 162 (by decide +kernel) rfl⟩
theorem lk_4_18 : LinkOK 4 18 (kF 5 6) := ⟨_, _, _, rfl, by decide, ga_c1 100 (by decide +kernel) rfl⟩
theorem lk_4_24 : LinkOK 4 24 (kM gX5_pieceLength) := ⟨ok_gX5_pieceLength, Or.inr ⟨ga_c2 221 (by decide +kernel) rfl, by decide +kernel, Or.inl ⟨ga_c2 220 (by decide +kernel) rfl, ga_c2 222 (by decide +kernel) rfl, by decide +kernel⟩⟩⟩
theorem lk_4_28 : LinkOK 4 28 (kM gX5_pieceBreadth) := ⟨ok_gX5_pieceBreadth, Or.inr ⟨ga_c2 229 (by decide +kernel) rfl, by decide +kernel, Or.inl ⟨ga_c2 228 (by decide +kernel) rfl, ga_c2 230 (by decide +kernel) rfl, by decide +kernel⟩⟩⟩
theorem bkT_4_ok : ∀ q ∈ bkT_4, LinkOK 4 q.1 q.2 := by
  unfold bkT_4
  exact List.forall_mem_cons.mpr ⟨lk_4_3, List.forall_mem_cons.mpr ⟨lk_4_9, List.forall_mem_cons.mpr ⟨lk_4_15, List.forall_mem_cons.mpr ⟨lk_4_18, List.forall_mem_cons.mpr ⟨lk_4_24, List.forall_mem_cons.mpr ⟨lk_4_28, (fun _ h => nomatch h)⟩⟩⟩⟩⟩⟩
def bkT_5 : List (Nat × bkL) := [(3, kB 3), (9, kF 5 0), (15, kF 5 1), (18, kF 5 2), (21, kC 3), (23, kM gX3_init), (24, kF 5 3), (28, kC 6), (30, kM gX6_init), (31, kF 5 4), (35, kF 5 5), (39, kF 5 6), (43, kF 5 7), (46, kF 5 8), (50, kF 5 9), (53, kF 5 10), (56, kS 4), (59, kB 2), (65, kM gX3_copyFrom), (69, kM gX6_copyFrom), (72, kM gX5_putBlockNumber), (76, kM gX5_blockNumber), (80, kM gX5_pieceBreadth), (83, kM gX5_sheetNumber), (86, kM gX5_pieceLength), (89, kB 0), (94, kM gX5_boardUnitsFor), (98, kM gX5_yieldFor), (101, kM gX5_sheetsFor), (104, kM gX5_clothUnitsFor), (107, kM gX5_isClothTooBroad), (111, kM gX5_unitsFor), (114, kM gX3_unitsOf), (117, kM gX3_take)]
theorem lk_5_3 : LinkOK 5 3 (kB 3) := ga_c1 38 (by decide +kernel) rfl
theorem lk_5_9 : LinkOK 5 9 (kF 5 0) := ⟨_, _, _, rfl, by decide, ga_c1 88 (by decide +kernel) rfl⟩
theorem lk_5_15 : LinkOK 5 15 (kF 5 1) := ⟨_, _, _, rfl, by decide, ga_c1 89 (by decide +kernel) rfl⟩
theorem lk_5_18 : LinkOK 5 18 (kF 5 2) := ⟨_, _, _, rfl, by decide, ga_c1 92 (by decide +kernel) rfl⟩
theorem lk_5_21 : LinkOK 5 21 (kC 3) := ⟨_, _, _, rfl, ga_c1 39 (by decide +kernel) rfl, ga_c1 40 (by decide +kernel) rfl, ga_c1 3 (by decide +kernel) rfl⟩
theorem lk_5_23 : LinkOK 5 23 (kM gX3_init) := ⟨ok_gX3_init, Or.inr ⟨ga_c1 42 (by decide +kernel) rfl, by decide +kernel, Or.inr ⟨by decide +kernel, rfl, rfl, Or.inr (nw_c1 41 (by decide +kernel) rfl)⟩⟩⟩
theorem lk_5_24 : LinkOK 5 24 (kF 5 3) := ⟨_, _, _, rfl, by decide, ga_c1 93 (by decide +kernel) rfl⟩
theorem lk_5_28 : LinkOK 5 28 (kC 6) := ⟨_, _, _, rfl, ga_c1 62 (by decide +kernel) rfl, ga_c1 63 (by decide +kernel) rfl, ga_c1 4 (by decide +kernel) rfl⟩
theorem lk_5_30 : LinkOK 5 30 (kM gX6_init) := ⟨ok_gX6_init, Or.inr ⟨ga_c1 65 (by decide +kernel) rfl, by decide +kernel, Or.inr ⟨by decide +kernel, rfl, rfl, Or.inr (nw_c1 64 (by decide +kernel) rfl)⟩⟩⟩
theorem lk_5_31 : LinkOK 5 31 (kF 5 4) := ⟨_, _, _, rfl, by decide, ga_c1 95 (by decide +kernel) rfl⟩
theorem lk_5_35 : LinkOK 5 35 (kF 5 5) := ⟨_, _, _, rfl, by decide, ga_c1 97 (by decide +kernel) rfl⟩
theorem lk_5_39 : LinkOK 5 39 (kF 5 6) := ⟨_, _, _, rfl, by decide, ga_c1 99 (by decide +kernel) rfl⟩
theorem lk_5_43 : LinkOK 5 43 (kF 5 7) := ⟨_, _, _, rfl, by decide, ga_c1 103 (by decide +kernel) rfl⟩
theorem lk_5_46 : LinkOK 5 46 (kF 5 8) := ⟨_, _, _, rfl, by decide, ga_c1 105 (by decide +kernel) rfl⟩
theorem lk_5_50 : LinkOK 5 50 (kF 5 9) := ⟨_, _, _, rfl, by decide, ga_c1 107 (by decide +kernel) rfl⟩
theorem lk_5_53 : LinkOK 5 53 (kF 5 10) := ⟨_, _, _, rfl, by decide, ga_c1 109 (by decide +kernel) rfl⟩
theorem lk_5_56 : LinkOK 5 56 (kS 4) := ⟨by decide, Or.inr (nw_c1 83 (by decide +kernel) rfl)⟩
theorem lk_5_59 : LinkOK 5 59 (kB 2) := ga_c1 85 (by decide +kernel) rfl
theorem lk_5_65 : LinkOK 5 65 (kM gX3_copyFrom) := ⟨ok_gX3_copyFrom, Or.inr ⟨ga_c2 34 (by decide +kernel) rfl, by decide +kernel, Or.inl ⟨ga_c2 33 (by decide +kernel) rfl, ga_c2 35 (by decide +kernel) rfl, by decide +kernel⟩⟩⟩
theorem lk_5_69 : LinkOK 5 69 (kM gX6_copyFrom) := ⟨ok_gX6_copyFrom, Or.inr ⟨ga_c2 39 (by decide +kernel) rfl, by decide +kernel, Or.inl ⟨ga_c2 38 (by decide +kernel) rfl, ga_c2 40 (by decide +kernel) rfl, by decide +kernel⟩⟩⟩
theorem lk_5_72 : LinkOK 5 72 (kM gX5_putBlockNumber) := ⟨ok_gX5_putBlockNumber, Or.inr ⟨ga_c2 164 (by decide +kernel) rfl, by decide +kernel, Or.inl ⟨ga_c2 163 (by decide +kernel) rfl, ga_c2 165 (by decide +kernel) rfl, by decide +kernel⟩⟩⟩
theorem lk_5_76 : LinkOK 5 76 (kM gX5_blockNumber) := ⟨ok_gX5_blockNumber, Or.inr ⟨ga_c2 225 (by decide +kernel) rfl, by decide +kernel, Or.inl ⟨ga_c2 224 (by decide +kernel) rfl, ga_c2 226 (by decide +kernel) rfl, by decide +kernel⟩⟩⟩
theorem lk_5_80 : LinkOK 5 80 (kM gX5_pieceBreadth) := ⟨ok_gX5_pieceBreadth, Or.inr ⟨ga_c2 229 (by decide +kernel) rfl, by decide +kernel, Or.inl ⟨ga_c3 63 (by decide +kernel) rfl, ga_c2 230 (by decide +kernel) rfl, by decide +kernel⟩⟩⟩
theorem lk_5_83 : LinkOK 5 83 (kM gX5_sheetNumber) := ⟨ok_gX5_sheetNumber, Or.inr ⟨ga_c3 77 (by decide +kernel) rfl, by decide +kernel, Or.inl ⟨ga_c3 76 (by decide +kernel) rfl, ga_c3 78 (by decide +kernel) rfl, by decide +kernel⟩⟩⟩
theorem lk_5_86 : LinkOK 5 86 (kM gX5_pieceLength) := ⟨ok_gX5_pieceLength, Or.inr ⟨ga_c2 221 (by decide +kernel) rfl, by decide +kernel, Or.inl ⟨ga_c3 80 (by decide +kernel) rfl, ga_c2 222 (by decide +kernel) rfl, by decide +kernel⟩⟩⟩
theorem lk_5_89 : LinkOK 5 89 (kB 0) := ga_c3 81 (by decide +kernel) rfl
theorem lk_5_94 : LinkOK 5 94 (kM gX5_boardUnitsFor) := ⟨ok_gX5_boardUnitsFor, Or.inr ⟨ga_c3 70 (by decide +kernel) rfl, by decide +kernel, Or.inl ⟨ga_c3 68 (by decide +kernel) rfl, ga_c0 3 (by decide +kernel) rfl, by decide +kernel⟩⟩⟩
theorem lk_5_98 : LinkOK 5 98 (kM gX5_yieldFor) := ⟨ok_gX5_yieldFor, Or.inr ⟨ga_c3 73 (by decide +kernel) rfl, by decide +kernel, Or.inl ⟨ga_c3 72 (by decide +kernel) rfl, ga_c3 74 (by decide +kernel) rfl, by decide +kernel⟩⟩⟩
theorem lk_5_101 : LinkOK 5 101 (kM gX5_sheetsFor) := ⟨ok_gX5_sheetsFor, Or.inr ⟨ga_c3 85 (by decide +kernel) rfl, by decide +kernel, Or.inl ⟨ga_c3 84 (by decide +kernel) rfl, ga_c3 86 (by decide +kernel) rfl, by decide +kernel⟩⟩⟩
theorem lk_5_104 : LinkOK 5 104 (kM gX5_clothUnitsFor) := ⟨ok_gX5_clothUnitsFor, Or.inr ⟨ga_c3 90 (by decide +kernel) rfl, by decide +kernel, Or.inl ⟨ga_c3 88 (by decide +kernel) rfl, ga_c0 4 (by decide +kernel) rfl, by decide +kernel⟩⟩⟩
theorem lk_5_107 : LinkOK 5 107 (kM gX5_isClothTooBroad) := ⟨ok_gX5_isClothTooBroad, Or.inr ⟨ga_c3 60 (by decide +kernel) rfl, by decide +kernel, Or.inl ⟨ga_c3 59 (by decide +kernel) rfl, ga_c3 61 (by decide +kernel) rfl, by decide +kernel⟩⟩⟩
theorem lk_5_111 : LinkOK 5 111 (kM gX5_unitsFor) := ⟨ok_gX5_unitsFor, Or.inr ⟨ga_c3 65 (by decide +kernel) rfl, by decide +kernel, Or.inl ⟨ga_c3 64 (by decide +kernel) rfl, ga_c3 66 (by decide +kernel) rfl, by decide +kernel⟩⟩⟩
theorem lk_5_114 : LinkOK 5 114 (kM gX3_unitsOf) := ⟨ok_gX3_unitsOf, Or.inr ⟨ga_c3 93 (by decide +kernel) rfl, by decide +kernel, Or.inl ⟨ga_c3 92 (by decide +kernel) rfl, ga_c3 94 (by decide +kernel) rfl, by decide +kernel⟩⟩⟩
theorem lk_5_117 : LinkOK 5 117 (kM gX3_take) := ⟨ok_gX3_take, Or.inr ⟨ga_c4 188 (by decide +kernel) rfl, by decide +kernel, Or.inl ⟨ga_c4 187 (by decide +kernel) rfl, ga_c4 189 (by decide +kernel) rfl, by decide +kernel⟩⟩⟩
theorem bkT_5_ok : ∀ q ∈ bkT_5, LinkOK 5 q.1 q.2 := by
  unfold bkT_5
  exact List.forall_mem_cons.mpr ⟨lk_5_3, List.forall_mem_cons.mpr ⟨lk_5_9, List.forall_mem_cons.mpr ⟨lk_5_15, List.forall_mem_cons.mpr ⟨lk_5_18, List.forall_mem_cons.mpr ⟨lk_5_21, List.forall_mem_cons.mpr ⟨lk_5_23, List.forall_mem_cons.mpr ⟨lk_5_24, List.forall_mem_cons.mpr ⟨lk_5_28, List.forall_mem_cons.mpr ⟨lk_5_30, List.forall_mem_cons.mpr ⟨lk_5_31, List.forall_mem_cons.mpr ⟨lk_5_35, List.forall_mem_cons.mpr ⟨lk_5_39, List.forall_mem_cons.mpr ⟨lk_5_43, List.forall_mem_cons.mpr ⟨lk_5_46, List.forall_mem_cons.mpr ⟨lk_5_50, List.forall_mem_cons.mpr ⟨lk_5_53, List.forall_mem_cons.mpr ⟨lk_5_56, List.forall_mem_cons.mpr ⟨lk_5_59, List.forall_mem_cons.mpr ⟨lk_5_65, List.forall_mem_cons.mpr ⟨lk_5_69, List.forall_mem_cons.mpr ⟨lk_5_72, List.forall_mem_cons.mpr ⟨lk_5_76, List.forall_mem_cons.mpr ⟨lk_5_80, List.forall_mem_cons.mpr ⟨lk_5_83, List.forall_mem_cons.mpr ⟨lk_5_86, List.forall_mem_cons.mpr ⟨lk_5_89, List.forall_mem_cons.mpr ⟨lk_5_94, List.forall_mem_cons.mpr ⟨lk_5_98, List.forall_mem_cons.mpr ⟨lk_5_101, List.forall_mem_cons.mpr ⟨lk_5_104, List.forall_mem_cons.mpr ⟨lk_5_107, List.forall_mem_cons.mpr ⟨lk_5_111, List.forall_mem_cons.mpr ⟨lk_5_114, List.forall_mem_cons.mpr ⟨lk_5_117, (fun _ h => nomatch h)⟩⟩⟩⟩⟩⟩⟩⟩⟩⟩⟩⟩⟩⟩⟩⟩⟩⟩⟩⟩⟩⟩⟩⟩⟩⟩⟩⟩⟩⟩⟩⟩⟩⟩
def bkT_6 : List (Nat × bkL) := [(3, kB 3), (9, kF 6 0), (15, kF 6 1), (18, kF 6 2), (21, kF 6 3), (25, kB 2), (31, kM gX6_slotFrom)]
theorem lk_6_3 : LinkOK 6 3 (kB 3) := ga_c1 67 (by decide +kernel) rfl
theorem lk_6_9 : LinkOK 6 9 (kF 6 0) := ⟨_, _, _, rfl, by decide, ga_c1 68 (by decide +kernel) rfl⟩
theorem lk_6_15 : LinkOK 6 15 (kF 6 1) := ⟨_, _, _, rfl, by decide, ga_c1 69 (by decide +kernel) rfl⟩
theorem lk_6_18 : LinkOK 6 18 (kF 6 2) := ⟨_, _, _, rfl, by decide, ga_c1 70 (by decide +kernel) rfl⟩
theorem lk_6_21 : LinkOK 6 21 (kF 6 3) := ⟨_, _, _, rfl, by decide, ga_c1 72 (by decide +kernel) rfl⟩
theorem lk_6_25 : LinkOK 6 25 (kB 2) := ga_c2 42 (by decide +kernel) rfl
theorem lk_6_31 : LinkOK 6 31 (kM gX6_slotFrom) := ⟨ok_gX6_slotFrom, Or.inr ⟨ga_c4 133 (by decide +kernel) rfl, by decide +kernel, Or.inl ⟨ga_c4 141 (by decide +kernel) rfl, ga_c4 134 (by decide +kernel) rfl, by decide +kernel⟩⟩⟩
theorem bkT_6_ok : ∀ q ∈ bkT_6, LinkOK 6 q.1 q.2 := by
  unfold bkT_6
  exact List.forall_mem_cons.mpr ⟨lk_6_3, List.forall_mem_cons.mpr ⟨lk_6_9, List.forall_mem_cons.mpr ⟨lk_6_15, List.forall_mem_cons.mpr ⟨lk_6_18, List.forall_mem_cons.mpr ⟨lk_6_21, List.forall_mem_cons.mpr ⟨lk_6_25, List.forall_mem_cons.mpr ⟨lk_6_31, (fun _ h => nomatch h)⟩⟩⟩⟩⟩⟩⟩
def bkT_7 : List (Nat × bkL) := [(7, kM gX7_tapeCount), (13, kM gX7_lastStation), (16, kM gX7_place), (20, kB 0)]
theorem lk_7_7 : LinkOK 7 7 (kM gX7_tapeCount) := ⟨ok_gX7_tapeCount, Or.inl ⟨ga_c3 223 (by decide +kernel) rfl, ga_c3 211 (by decide +kernel) rfl, by decide +kernel⟩⟩
theorem lk_7_13 : LinkOK 7 13 (kM gX7_lastStation) := ⟨ok_gX7_lastStation, Or.inl ⟨ga_c3 228 (by decide +kernel) rfl, ga_c3 221 (by decide +kernel) rfl, by decide +kernel⟩⟩
theorem lk_7_16 : LinkOK 7 16 (kM gX7_place) := ⟨ok_gX7_place, Or.inl ⟨ga_c3 239 (by decide +kernel) rfl, ga_c3 226 (by decide +kernel) rfl, by decide +kernel⟩⟩
theorem lk_7_20 : LinkOK 7 20 (kB 0) := ga_c4 0 (by decide +kernel) rfl
theorem bkT_7_ok : ∀ q ∈ bkT_7, LinkOK 7 q.1 q.2 := by
  unfold bkT_7
  exact List.forall_mem_cons.mpr ⟨lk_7_7, List.forall_mem_cons.mpr ⟨lk_7_13, List.forall_mem_cons.mpr ⟨lk_7_16, List.forall_mem_cons.mpr ⟨lk_7_20, (fun _ h => nomatch h)⟩⟩⟩⟩
def bkT_8 : List (Nat × bkL) := [(1, kB 3), (7, kC 5), (9, kM gX5_init), (10, kF 7 0), (16, kF 7 1), (19, kC 2), (21, kM gX2_init), (22, kF 7 2), (26, kC 4), (28, kM gX4_init), (29, kF 7 3), (33, kC 1), (35, kM gX1_init), (36, kF 7 4), (40, kC 0), (42, kM gX0_init), (43, kF 7 5), (47, kF 7 6), (51, kF 7 7), (55, kM gX8_addChecked), (59, kM gX8_requireBook), (63, kM gX8_isBlockNumber), (67, kX 1 71), (74, kM gX2_keep), (78, kM gX4_note), (81, kM gX5_putBlockNumber), (85, kM gX4_changedPieces), (91, kM gX5_blockNumber), (95, kM gX8_requireSetting), (98, kS 2), (102, kS 3), (107, kF 5 1), (110, kF 5 6), (113, kM gJ6_bitCount_0f7a4), (119, kM gX8_requirePiece), (122, kM gX5_pieceBreadth), (125, kM gX5_pieceLength), (128, kM gX5_reasonAgainst), (131, kM gX8_requireSheetMaterial), (134, kM gX8_isSheetSide), (140, kM gX5_sheetNumber), (143, kM gX5_putSheet), (149, kX 3 153), (154, kM gX5_yieldFor), (157, kM gX8_requireMaterial), (160, kM gX5_unitsFor), (163, kX 4 167), (168, kM gX5_sheetsFor), (171, kX 5 175), (176, kM gX7_tapeCount), (181, kM gX7_lastStation), (186, kM gX7_place), (189, kM gX7_greatestDistance), (192, kM gX8_layCloths), (195, kM gX1_leastLength), (199, kM gX1_fit), (202, kF 1 10), (205, kM gX1_stripOfBook), (210, kF 1 9), (215, kM gX1_clothArea), (219, kM gX8_isPrice), (224, kF 5 3), (228, kF 3 3), (233, kX 2 237), (238, kF 5 10), (242, kM gX3_put), (245, kM gX3_countOf), (248, kM gX3_unitsOf), (251, kM gX3_slotOf), (256, kF 3 2), (259, kF 3 1), (264, kF 5 4), (267, kF 6 3), (270, kM gX6_slotFrom), (275, kM gX6_put), (278, kF 6 2), (279, kM gX6_remove), (282, kM gX6_listPrice), (293, kM gX5_useUnitsFor), (300, kF 5 7), (307, kF 5 8), (310, kF 5 9), (313, kM gX3_worth), (316, kF 5 5), (320, kF 0 3), (325, kM gX0_put), (328, kM gX0_readAndEmpty), (334, kF 0 1), (337, kF 0 4), (340, kF 2 2), (343, kM gX2_bringBack), (346, kM gX5_copyFrom), (351, kM gX2_forget), (358, kM gX5_putBook), (363, kM gX5_isClothTooBroad), (368, kM gX1_lay), (372, kX 0 376), (385, kS 0), (388, kS 1)]
theorem lk_8_1 : LinkOK 8 1 (kB 3) := ga_c1 30 (by decide +kernel) rfl
theorem lk_8_7 : LinkOK 8 7 (kC 5) := ⟨_, _, _, rfl, ga_c1 33 (by decide +kernel) rfl, ga_c1 34 (by decide +kernel) rfl, ga_c1 2 (by decide +kernel) rfl⟩
theorem lk_8_9 : LinkOK 8 9 (kM gX5_init) := ⟨ok_gX5_init, Or.inr ⟨ga_c1 36 (by decide +kernel) rfl, by decide +kernel, Or.inr ⟨by decide +kernel, rfl, rfl, Or.inl (ga_c1 35 (by decide +kernel) rfl)⟩⟩⟩
theorem lk_8_10 : LinkOK 8 10 (kF 7 0) := ⟨_, _, _, rfl, by decide, ga_c1 236 (by decide +kernel) rfl⟩
theorem lk_8_16 : LinkOK 8 16 (kF 7 1) := ⟨_, _, _, rfl, by decide, ga_c1 237 (by decide +kernel) rfl⟩
theorem lk_8_19 : LinkOK 8 19 (kC 2) := ⟨_, _, _, rfl, ga_c1 135 (by decide +kernel) rfl, ga_c1 136 (by decide +kernel) rfl, ga_c1 6 (by decide +kernel) rfl⟩
theorem lk_8_21 : LinkOK 8 21 (kM gX2_init) := ⟨ok_gX2_init, Or.inr ⟨ga_c1 138 (by decide +kernel) rfl, by decide +kernel, Or.inr ⟨by decide +kernel, rfl, rfl, Or.inl (ga_c1 137 (by decide +kernel) rfl)⟩⟩⟩
theorem lk_8_22 : LinkOK 8 22 (kF 7 2) := ⟨_, _, _, rfl, by decide, ga_c1 238 (by decide +kernel) rfl⟩
theorem lk_8_26 : LinkOK 8 26 (kC 4) := ⟨_, _, _, rfl, ga_c1 155 (by decide +kernel) rfl, ga_c1 156 (by decide +kernel) rfl, ga_c1 7 (by decide +kernel) rfl⟩
theorem lk_8_28 : LinkOK 8 28 (kM gX4_init) := ⟨ok_gX4_init, Or.inr ⟨ga_c1 158 (by decide +kernel) rfl, by decide +kernel, Or.inr ⟨by decide +kernel, rfl, rfl, Or.inr (nw_c1 157 (by decide +kernel) rfl)⟩⟩⟩
theorem lk_8_29 : LinkOK 8 29 (kF 7 3) := ⟨_, _, _, rfl, by decide, ga_c1 239 (by decide +kernel) rfl⟩
theorem lk_8_33 : LinkOK 8 33 (kC 1) := ⟨_, _, _, rfl, ga_c1 168 (by decide +kernel) rfl, ga_c1 169 (by decide +kernel) rfl, ga_c1 8 (by decide +kernel) rfl⟩
theorem lk_8_35 : LinkOK 8 35 (kM gX1_init) := ⟨ok_gX1_init, Or.inr ⟨ga_c1 171 (by decide +kernel) rfl, by decide +kernel, Or.inr ⟨by decide +kernel, rfl, rfl, Or.inr (nw_c1 170 (by decide +kernel) rfl)⟩⟩⟩
theorem lk_8_36 : LinkOK 8 36 (kF 7 4) := ⟨_, _, _, rfl, by decide, ga_c2 0 (by decide +kernel) rfl⟩
theorem lk_8_40 : LinkOK 8 40 (kC 0) := ⟨_, _, _, rfl, ga_c1 210 (by decide +kernel) rfl, ga_c1 211 (by decide +kernel) rfl, ga_c1 9 (by decide +kernel) rfl⟩
theorem lk_8_42 : LinkOK 8 42 (kM gX0_init) := ⟨ok_gX0_init, Or.inr ⟨ga_c1 213 (by decide +kernel) rfl, by decide +kernel, Or.inr ⟨by decide +kernel, rfl, rfl, Or.inr (nw_c1 212 (by decide +kernel) rfl)⟩⟩⟩
theorem lk_8_43 : LinkOK 8 43 (kF 7 5) := ⟨_, _, _, rfl, by decide, ga_c2 1 (by decide +kernel) rfl⟩
theorem lk_8_47 : LinkOK 8 47 (kF 7 6) := ⟨_, _, _, rfl, by decide, ga_c2 2 (by decide +kernel) rfl⟩
theorem lk_8_51 : LinkOK 8 51 (kF 7 7) := ⟨_, _, _, rfl, by decide, ga_c2 3 (by decide +kernel) rfl⟩
theorem lk_8_55 : LinkOK 8 55 (kM gX8_addChecked) := ⟨ok_gX8_addChecked, Or.inr ⟨ga_c2 54 (by decide +kernel) rfl, by decide +kernel, Or.inl ⟨ga_c2 52 (by decide +kernel) rfl, ga_c0 0 (by decide +kernel) rfl, by decide +kernel⟩⟩⟩
theorem lk_8_59 : LinkOK 8 59 (kM gX8_requireBook) := ⟨ok_gX8_requireBook, Or.inr ⟨ga_c2 200 (by decide +kernel) rfl, by decide +kernel, Or.inl ⟨ga_c2 198 (by decide +kernel) rfl, ga_c0 2 (by decide +kernel) rfl, by decide +kernel⟩⟩⟩
theorem lk_8_63 : LinkOK 8 63 (kM gX8_isBlockNumber) := ⟨ok_gX8_isBlockNumber, Or.inl ⟨ga_c2 56 (by decide +kernel) rfl, ga_c2 57 (by decide +kernel) rfl, by decide +kernel⟩⟩
theorem lk_8_67 : LinkOK 8 67 (kX 1 71) := ⟨ga_c2 63 (by decide +kernel) rfl, by decide, nw_c2 65 (by decide +kernel) rfl, fun _ => ⟨ga_c1 14 (by decide +kernel) rfl, by decide +kernel, by decide +kernel⟩⟩
theorem lk_8_74 : LinkOK 8 74 (kM gX2_keep) := ⟨ok_gX2_keep, Or.inr ⟨ga_c2 152 (by decide +kernel) rfl, by decide +kernel, Or.inl ⟨ga_c2 151 (by decide +kernel) rfl, ga_c2 153 (by decide +kernel) rfl, by decide +kernel⟩⟩⟩
theorem lk_8_78 : LinkOK 8 78 (kM gX4_note) := ⟨ok_gX4_note, Or.inr ⟨ga_c2 217 (by decide +kernel) rfl, by decide +kernel, Or.inl ⟨ga_c2 216 (by decide +kernel) rfl, ga_c2 218 (by decide +kernel) rfl, by decide +kernel⟩⟩⟩
theorem lk_8_81 : LinkOK 8 81 (kM gX5_putBlockNumber) := ⟨ok_gX5_putBlockNumber, Or.inr ⟨ga_c2 164 (by decide +kernel) rfl, by decide +kernel, Or.inl ⟨ga_c2 232 (by decide +kernel) rfl, ga_c2 165 (by decide +kernel) rfl, by decide +kernel⟩⟩⟩
theorem lk_8_85 : LinkOK 8 85 (kM gX4_changedPieces) := ⟨ok_gX4_changedPieces, Or.inr ⟨ga_c2 234 (by decide +kernel) rfl, by decide +kernel, Or.inl ⟨ga_c2 233 (by decide +kernel) rfl, ga_c2 235 (by decide +kernel) rfl, by decide +kernel⟩⟩⟩
theorem lk_8_91 : LinkOK 8 91 (kM gX5_blockNumber) := ⟨ok_gX5_blockNumber, Or.inr ⟨ga_c2 225 (by decide +kernel) rfl, by decide +kernel, Or.inl ⟨ga_c3 5 (by decide +kernel) rfl, ga_c2 226 (by decide +kernel) rfl, by decide +kernel⟩⟩⟩
theorem lk_8_95 : LinkOK 8 95 (kM gX8_requireSetting) := ⟨ok_gX8_requireSetting, Or.inl ⟨ga_c3 13 (by decide +kernel) rfl, ga_c3 14 (by decide +kernel) rfl, by decide +kernel⟩⟩
theorem lk_8_98 : LinkOK 8 98 (kS 2) := ⟨by decide, Or.inl (ga_c3 17 (by decide +kernel) rfl)⟩
theorem lk_8_102 : LinkOK 8 102 (kS 3) := ⟨by decide, Or.inl (ga_c3 19 (by decide +kernel) rfl)⟩
theorem lk_8_107 : LinkOK 8 107 (kF 5 1) := ⟨_, _, _, rfl, by decide, ga_c1 91 (by decide +kernel) rfl⟩
theorem lk_8_110 : LinkOK 8 110 (kF 5 6) := ⟨_, _, _, rfl, by decide, ga_c1 102 (by decide +kernel) rfl⟩
theorem lk_8_113 : LinkOK 8 113 (kM gJ6_bitCount_0f7a4) := ⟨ok_gJ6_bitCount_0f7a4, Or.inl ⟨ga_c3 22 (by decide +kernel) rfl, ga_c3 23 (by decide +kernel) rfl, by decide +kernel⟩⟩
theorem lk_8_119 : LinkOK 8 119 (kM gX8_requirePiece) := ⟨ok_gX8_requirePiece, Or.inl ⟨ga_c3 42 (by decide +kernel) rfl, ga_c3 43 (by decide +kernel) rfl, by decide +kernel⟩⟩
theorem lk_8_122 : LinkOK 8 122 (kM gX5_pieceBreadth) := ⟨ok_gX5_pieceBreadth, Or.inr ⟨ga_c2 229 (by decide +kernel) rfl, by decide +kernel, Or.inl ⟨ga_c3 46 (by decide +kernel) rfl, ga_c2 230 (by decide +kernel) rfl, by decide +kernel⟩⟩⟩
theorem lk_8_125 : LinkOK 8 125 (kM gX5_pieceLength) := ⟨ok_gX5_pieceLength, Or.inr ⟨ga_c2 221 (by decide +kernel) rfl, by decide +kernel, Or.inl ⟨ga_c3 47 (by decide +kernel) rfl, ga_c2 222 (by decide +kernel) rfl, by decide +kernel⟩⟩⟩
theorem lk_8_128 : LinkOK 8 128 (kM gX5_reasonAgainst) := ⟨ok_gX5_reasonAgainst, Or.inr ⟨ga_c3 56 (by decide +kernel) rfl, by decide +kernel, Or.inl ⟨ga_c3 55 (by decide +kernel) rfl, ga_c3 57 (by decide +kernel) rfl, by decide +kernel⟩⟩⟩
theorem lk_8_131 : LinkOK 8 131 (kM gX8_requireSheetMaterial) := ⟨ok_gX8_requireSheetMaterial, Or.inl ⟨ga_c3 103 (by decide +kernel) rfl, ga_c3 104 (by decide +kernel) rfl, by decide +kernel⟩⟩
theorem lk_8_134 : LinkOK 8 134 (kM gX8_isSheetSide) := ⟨ok_gX8_isSheetSide, Or.inl ⟨ga_c3 107 (by decide +kernel) rfl, ga_c3 108 (by decide +kernel) rfl, by decide +kernel⟩⟩
theorem lk_8_140 : LinkOK 8 140 (kM gX5_sheetNumber) := ⟨ok_gX5_sheetNumber, Or.inr ⟨ga_c3 77 (by decide +kernel) rfl, by decide +kernel, Or.inl ⟨ga_c3 111 (by decide +kernel) rfl, ga_c3 78 (by decide +kernel) rfl, by decide +kernel⟩⟩⟩
theorem lk_8_143 : LinkOK 8 143 (kM gX5_putSheet) := ⟨ok_gX5_putSheet, Or.inr ⟨ga_c3 113 (by decide +kernel) rfl, by decide +kernel, Or.inl ⟨ga_c3 112 (by decide +kernel) rfl, ga_c3 114 (by decide +kernel) rfl, by decide +kernel⟩⟩⟩
theorem lk_8_149 : LinkOK 8 149 (kX 3 153) := ⟨ga_c3 132 (by decide +kernel) rfl, by decide, nw_c3 134 (by decide +kernel) rfl, fun _ => ⟨ga_c1 21 (by decide +kernel) rfl, by decide +kernel, by decide +kernel⟩⟩
theorem lk_8_154 : LinkOK 8 154 (kM gX5_yieldFor) := ⟨ok_gX5_yieldFor, Or.inr ⟨ga_c3 73 (by decide +kernel) rfl, by decide +kernel, Or.inl ⟨ga_c3 148 (by decide +kernel) rfl, ga_c3 74 (by decide +kernel) rfl, by decide +kernel⟩⟩⟩
theorem lk_8_157 : LinkOK 8 157 (kM gX8_requireMaterial) := ⟨ok_gX8_requireMaterial, Or.inl ⟨ga_c3 157 (by decide +kernel) rfl, ga_c3 158 (by decide +kernel) rfl, by decide +kernel⟩⟩
theorem lk_8_160 : LinkOK 8 160 (kM gX5_unitsFor) := ⟨ok_gX5_unitsFor, Or.inr ⟨ga_c3 65 (by decide +kernel) rfl, by decide +kernel, Or.inl ⟨ga_c3 161 (by decide +kernel) rfl, ga_c3 66 (by decide +kernel) rfl, by decide +kernel⟩⟩⟩
theorem lk_8_163 : LinkOK 8 163 (kX 4 167) := ⟨ga_c3 162 (by decide +kernel) rfl, by decide, nw_c3 164 (by decide +kernel) rfl, fun _ => ⟨ga_c1 22 (by decide +kernel) rfl, by decide +kernel, by decide +kernel⟩⟩
theorem lk_8_168 : LinkOK 8 168 (kM gX5_sheetsFor) := ⟨ok_gX5_sheetsFor, Or.inr ⟨ga_c3 85 (by decide +kernel) rfl, by decide +kernel, Or.inl ⟨ga_c3 199 (by decide +kernel) rfl, ga_c3 86 (by decide +kernel) rfl, by decide +kernel⟩⟩⟩
theorem lk_8_171 : LinkOK 8 171 (kX 5 175) := ⟨ga_c3 200 (by decide +kernel) rfl, by decide, nw_c3 193 (by decide +kernel) rfl, fun _ => ⟨ga_c1 23 (by decide +kernel) rfl, by decide +kernel, by decide +kernel⟩⟩
theorem lk_8_176 : LinkOK 8 176 (kM gX7_tapeCount) := ⟨ok_gX7_tapeCount, Or.inl ⟨ga_c3 210 (by decide +kernel) rfl, ga_c3 211 (by decide +kernel) rfl, by decide +kernel⟩⟩
theorem lk_8_181 : LinkOK 8 181 (kM gX7_lastStation) := ⟨ok_gX7_lastStation, Or.inl ⟨ga_c3 220 (by decide +kernel) rfl, ga_c3 221 (by decide +kernel) rfl, by decide +kernel⟩⟩
theorem lk_8_186 : LinkOK 8 186 (kM gX7_place) := ⟨ok_gX7_place, Or.inl ⟨ga_c3 225 (by decide +kernel) rfl, ga_c3 226 (by decide +kernel) rfl, by decide +kernel⟩⟩
theorem lk_8_189 : LinkOK 8 189 (kM gX7_greatestDistance) := ⟨ok_gX7_greatestDistance, Or.inl ⟨ga_c3 236 (by decide +kernel) rfl, ga_c3 237 (by decide +kernel) rfl, by decide +kernel⟩⟩
theorem lk_8_192 : LinkOK 8 192 (kM gX8_layCloths) := ⟨ok_gX8_layCloths, Or.inr ⟨ga_c4 10 (by decide +kernel) rfl, by decide +kernel, Or.inl ⟨ga_c4 8 (by decide +kernel) rfl, ga_c0 5 (by decide +kernel) rfl, by decide +kernel⟩⟩⟩
theorem lk_8_195 : LinkOK 8 195 (kM gX1_leastLength) := ⟨ok_gX1_leastLength, Or.inr ⟨ga_c4 26 (by decide +kernel) rfl, by decide +kernel, Or.inl ⟨ga_c4 25 (by decide +kernel) rfl, ga_c4 27 (by decide +kernel) rfl, by decide +kernel⟩⟩⟩
theorem lk_8_199 : LinkOK 8 199 (kM gX1_fit) := ⟨ok_gX1_fit, Or.inr ⟨ga_c4 46 (by decide +kernel) rfl, by decide +kernel, Or.inl ⟨ga_c4 45 (by decide +kernel) rfl, ga_c4 47 (by decide +kernel) rfl, by decide +kernel⟩⟩⟩
theorem lk_8_202 : LinkOK 8 202 (kF 1 10) := ⟨_, _, _, rfl, by decide, ga_c1 186 (by decide +kernel) rfl⟩
theorem lk_8_205 : LinkOK 8 205 (kM gX1_stripOfBook) := ⟨ok_gX1_stripOfBook, Or.inr ⟨ga_c4 61 (by decide +kernel) rfl, by decide +kernel, Or.inl ⟨ga_c4 60 (by decide +kernel) rfl, ga_c4 62 (by decide +kernel) rfl, by decide +kernel⟩⟩⟩
theorem lk_8_210 : LinkOK 8 210 (kF 1 9) := ⟨_, _, _, rfl, by decide, ga_c1 184 (by decide +kernel) rfl⟩
theorem lk_8_215 : LinkOK 8 215 (kM gX1_clothArea) := ⟨ok_gX1_clothArea, Or.inr ⟨ga_c4 81 (by decide +kernel) rfl, by decide +kernel, Or.inl ⟨ga_c4 80 (by decide +kernel) rfl, ga_c4 82 (by decide +kernel) rfl, by decide +kernel⟩⟩⟩
theorem lk_8_219 : LinkOK 8 219 (kM gX8_isPrice) := ⟨ok_gX8_isPrice, Or.inl ⟨ga_c4 91 (by decide +kernel) rfl, ga_c4 92 (by decide +kernel) rfl, by decide +kernel⟩⟩
theorem lk_8_224 : LinkOK 8 224 (kF 5 3) := ⟨_, _, _, rfl, by decide, ga_c1 94 (by decide +kernel) rfl⟩
theorem lk_8_228 : LinkOK 8 228 (kF 3 3) := ⟨_, _, _, rfl, by decide, ga_c1 51 (by decide +kernel) rfl⟩
theorem lk_8_233 : LinkOK 8 233 (kX 2 237) := ⟨ga_c2 135 (by decide +kernel) rfl, by decide, nw_c2 137 (by decide +kernel) rfl, fun _ => ⟨ga_c1 15 (by decide +kernel) rfl, by decide +kernel, by decide +kernel⟩⟩
theorem lk_8_238 : LinkOK 8 238 (kF 5 10) := ⟨_, _, _, rfl, by decide, ga_c1 110 (by decide +kernel) rfl⟩
theorem lk_8_242 : LinkOK 8 242 (kM gX3_put) := ⟨ok_gX3_put, Or.inr ⟨ga_c4 97 (by decide +kernel) rfl, by decide +kernel, Or.inl ⟨ga_c4 96 (by decide +kernel) rfl, ga_c4 98 (by decide +kernel) rfl, by decide +kernel⟩⟩⟩
theorem lk_8_245 : LinkOK 8 245 (kM gX3_countOf) := ⟨ok_gX3_countOf, Or.inr ⟨ga_c4 101 (by decide +kernel) rfl, by decide +kernel, Or.inl ⟨ga_c4 100 (by decide +kernel) rfl, ga_c4 102 (by decide +kernel) rfl, by decide +kernel⟩⟩⟩
theorem lk_8_248 : LinkOK 8 248 (kM gX3_unitsOf) := ⟨ok_gX3_unitsOf, Or.inr ⟨ga_c3 93 (by decide +kernel) rfl, by decide +kernel, Or.inl ⟨ga_c4 111 (by decide +kernel) rfl, ga_c3 94 (by decide +kernel) rfl, by decide +kernel⟩⟩⟩
theorem lk_8_251 : LinkOK 8 251 (kM gX3_slotOf) := ⟨ok_gX3_slotOf, Or.inr ⟨ga_c4 120 (by decide +kernel) rfl, by decide +kernel, Or.inl ⟨ga_c4 119 (by decide +kernel) rfl, ga_c4 121 (by decide +kernel) rfl, by decide +kernel⟩⟩⟩
theorem lk_8_256 : LinkOK 8 256 (kF 3 2) := ⟨_, _, _, rfl, by decide, ga_c1 49 (by decide +kernel) rfl⟩
theorem lk_8_259 : LinkOK 8 259 (kF 3 1) := ⟨_, _, _, rfl, by decide, ga_c1 47 (by decide +kernel) rfl⟩
theorem lk_8_264 : LinkOK 8 264 (kF 5 4) := ⟨_, _, _, rfl, by decide, ga_c1 96 (by decide +kernel) rfl⟩
theorem lk_8_267 : LinkOK 8 267 (kF 6 3) := ⟨_, _, _, rfl, by decide, ga_c1 73 (by decide +kernel) rfl⟩
theorem lk_8_270 : LinkOK 8 270 (kM gX6_slotFrom) := ⟨ok_gX6_slotFrom, Or.inr ⟨ga_c4 133 (by decide +kernel) rfl, by decide +kernel, Or.inl ⟨ga_c4 132 (by decide +kernel) rfl, ga_c4 134 (by decide +kernel) rfl, by decide +kernel⟩⟩⟩
theorem lk_8_275 : LinkOK 8 275 (kM gX6_put) := ⟨ok_gX6_put, Or.inr ⟨ga_c4 138 (by decide +kernel) rfl, by decide +kernel, Or.inl ⟨ga_c4 137 (by decide +kernel) rfl, ga_c4 139 (by decide +kernel) rfl, by decide +kernel⟩⟩⟩
theorem lk_8_278 : LinkOK 8 278 (kF 6 2) := ⟨_, _, _, rfl, by decide, ga_c1 71 (by decide +kernel) rfl⟩
theorem lk_8_279 : LinkOK 8 279 (kM gX6_remove) := ⟨ok_gX6_remove, Or.inr ⟨ga_c4 151 (by decide +kernel) rfl, by decide +kernel, Or.inl ⟨ga_c4 150 (by decide +kernel) rfl, ga_c4 152 (by decide +kernel) rfl, by decide +kernel⟩⟩⟩
theorem lk_8_282 : LinkOK 8 282 (kM gX6_listPrice) := ⟨ok_gX6_listPrice, Or.inr ⟨ga_c4 162 (by decide +kernel) rfl, by decide +kernel, Or.inl ⟨ga_c4 161 (by decide +kernel) rfl, ga_c4 163 (by decide +kernel) rfl, by decide +kernel⟩⟩⟩
theorem lk_8_293 : LinkOK 8 293 (kM gX5_useUnitsFor) := ⟨ok_gX5_useUnitsFor, Or.inr ⟨ga_c4 184 (by decide +kernel) rfl, by decide +kernel, Or.inl ⟨ga_c4 183 (by decide +kernel) rfl, ga_c4 185 (by decide +kernel) rfl, by decide +kernel⟩⟩⟩
theorem lk_8_300 : LinkOK 8 300 (kF 5 7) := ⟨_, _, _, rfl, by decide, ga_c1 104 (by decide +kernel) rfl⟩
theorem lk_8_307 : LinkOK 8 307 (kF 5 8) := ⟨_, _, _, rfl, by decide, ga_c1 106 (by decide +kernel) rfl⟩
theorem lk_8_310 : LinkOK 8 310 (kF 5 9) := ⟨_, _, _, rfl, by decide, ga_c1 108 (by decide +kernel) rfl⟩
theorem lk_8_313 : LinkOK 8 313 (kM gX3_worth) := ⟨ok_gX3_worth, Or.inr ⟨ga_c4 222 (by decide +kernel) rfl, by decide +kernel, Or.inl ⟨ga_c4 221 (by decide +kernel) rfl, ga_c4 223 (by decide +kernel) rfl, by decide +kernel⟩⟩⟩
theorem lk_8_316 : LinkOK 8 316 (kF 5 5) := ⟨_, _, _, rfl, by decide, ga_c1 98 (by decide +kernel) rfl⟩
theorem lk_8_320 : LinkOK 8 320 (kF 0 3) := ⟨_, _, _, rfl, by decide, ga_c1 221 (by decide +kernel) rfl⟩
theorem lk_8_325 : LinkOK 8 325 (kM gX0_put) := ⟨ok_gX0_put, Or.inr ⟨ga_c4 234 (by decide +kernel) rfl, by decide +kernel, Or.inl ⟨ga_c4 233 (by decide +kernel) rfl, ga_c4 235 (by decide +kernel) rfl, by decide +kernel⟩⟩⟩
theorem lk_8_328 : LinkOK 8 328 (kM gX0_readAndEmpty) := ⟨ok_gX0_readAndEmpty, Or.inr ⟨ga_c5 5 (by decide +kernel) rfl, by decide +kernel, Or.inl ⟨ga_c5 4 (by decide +kernel) rfl, ga_c5 6 (by decide +kernel) rfl, by decide +kernel⟩⟩⟩
theorem lk_8_334 : LinkOK 8 334 (kF 0 1) := ⟨_, _, _, rfl, by decide, ga_c1 218 (by decide +kernel) rfl⟩
theorem lk_8_337 : LinkOK 8 337 (kF 0 4) := ⟨_, _, _, rfl, by decide, ga_c1 223 (by decide +kernel) rfl⟩
theorem lk_8_340 : LinkOK 8 340 (kF 2 2) := ⟨_, _, _, rfl, by decide, ga_c1 147 (by decide +kernel) rfl⟩
theorem lk_8_343 : LinkOK 8 343 (kM gX2_bringBack) := ⟨ok_gX2_bringBack, Or.inr ⟨ga_c5 38 (by decide +kernel) rfl, by decide +kernel, Or.inl ⟨ga_c5 37 (by decide +kernel) rfl, ga_c5 39 (by decide +kernel) rfl, by decide +kernel⟩⟩⟩
theorem lk_8_346 : LinkOK 8 346 (kM gX5_copyFrom) := ⟨ok_gX5_copyFrom, Or.inr ⟨ga_c2 30 (by decide +kernel) rfl, by decide +kernel, Or.inl ⟨ga_c2 29 (by decide +kernel) rfl, ga_c2 31 (by decide +kernel) rfl, by decide +kernel⟩⟩⟩
theorem lk_8_351 : LinkOK 8 351 (kM gX2_forget) := ⟨ok_gX2_forget, Or.inr ⟨ga_c5 50 (by decide +kernel) rfl, by decide +kernel, Or.inl ⟨ga_c5 49 (by decide +kernel) rfl, ga_c5 51 (by decide +kernel) rfl, by decide +kernel⟩⟩⟩
theorem lk_8_358 : LinkOK 8 358 (kM gX5_putBook) := ⟨ok_gX5_putBook, Or.inr ⟨ga_c2 160 (by decide +kernel) rfl, by decide +kernel, Or.inl ⟨ga_c2 159 (by decide +kernel) rfl, ga_c2 161 (by decide +kernel) rfl, by decide +kernel⟩⟩⟩
theorem lk_8_363 : LinkOK 8 363 (kM gX5_isClothTooBroad) := ⟨ok_gX5_isClothTooBroad, Or.inr ⟨ga_c3 60 (by decide +kernel) rfl, by decide +kernel, Or.inl ⟨ga_c4 13 (by decide +kernel) rfl, ga_c3 61 (by decide +kernel) rfl, by decide +kernel⟩⟩⟩
theorem lk_8_368 : LinkOK 8 368 (kM gX1_lay) := ⟨ok_gX1_lay, Or.inr ⟨ga_c4 16 (by decide +kernel) rfl, by decide +kernel, Or.inl ⟨ga_c4 15 (by decide +kernel) rfl, ga_c4 17 (by decide +kernel) rfl, by decide +kernel⟩⟩⟩
theorem lk_8_372 : LinkOK 8 372 (kX 0 376) := ⟨ga_c2 202 (by decide +kernel) rfl, by decide, nw_c2 204 (by decide +kernel) rfl, fun _ => ⟨ga_c1 17 (by decide +kernel) rfl, by decide +kernel, by decide +kernel⟩⟩
theorem lk_8_385 : LinkOK 8 385 (kS 0) := ⟨by decide, Or.inl (ga_c2 59 (by decide +kernel) rfl)⟩
theorem lk_8_388 : LinkOK 8 388 (kS 1) := ⟨by decide, Or.inl (ga_c2 61 (by decide +kernel) rfl)⟩
theorem bkT_8_ok : ∀ q ∈ bkT_8, LinkOK 8 q.1 q.2 := by
  unfold bkT_8
  exact List.forall_mem_cons.mpr ⟨lk_8_1, List.forall_mem_cons.mpr ⟨lk_8_7, List.forall_mem_cons.mpr ⟨lk_8_9, List.forall_mem_cons.mpr ⟨lk_8_10, List.forall_mem_cons.mpr ⟨lk_8_16, List.forall_mem_cons.mpr ⟨lk_8_19, List.forall_mem_cons.mpr ⟨lk_8_21, List.forall_mem_cons.mpr ⟨lk_8_22, List.forall_mem_cons.mpr ⟨lk_8_26, List.forall_mem_cons.mpr ⟨lk_8_28, List.forall_mem_cons.mpr ⟨lk_8_29, List.forall_mem_cons.mpr ⟨lk_8_33, List.forall_mem_cons.mpr ⟨lk_8_35, List.forall_mem_cons.mpr ⟨lk_8_36, List.forall_mem_cons.mpr ⟨lk_8_40, List.forall_mem_cons.mpr ⟨lk_8_42, List.forall_mem_cons.mpr ⟨lk_8_43, List.forall_mem_cons.mpr ⟨lk_8_47, List.forall_mem_cons.mpr ⟨lk_8_51, List.forall_mem_cons.mpr ⟨lk_8_55, List.forall_mem_cons.mpr ⟨lk_8_59, List.forall_mem_cons.mpr ⟨lk_8_63, List.forall_mem_cons.mpr ⟨lk_8_67, List.forall_mem_cons.mpr ⟨lk_8_74, List.forall_mem_cons.mpr ⟨lk_8_78, List.forall_mem_cons.mpr ⟨lk_8_81, List.forall_mem_cons.mpr ⟨lk_8_85, List.forall_mem_cons.mpr ⟨lk_8_91, List.forall_mem_cons.mpr ⟨lk_8_95, List.forall_mem_cons.mpr ⟨lk_8_98, List.forall_mem_cons.mpr ⟨lk_8_102, List.forall_mem_cons.mpr ⟨lk_8_107, List.forall_mem_cons.mpr ⟨lk_8_110, List.forall_mem_cons.mpr ⟨lk_8_113, List.forall_mem_cons.mpr ⟨lk_8_119, List.forall_mem_cons.mpr ⟨lk_8_122, List.forall_mem_cons.mpr ⟨lk_8_125, List.forall_mem_cons.mpr ⟨lk_8_128, List.forall_mem_cons.mpr ⟨lk_8_131, List.forall_mem_cons.mpr ⟨lk_8_134, List.forall_mem_cons.mpr ⟨lk_8_140, List.forall_mem_cons.mpr ⟨lk_8_143, List.forall_mem_cons.mpr ⟨lk_8_149, List.forall_mem_cons.mpr ⟨lk_8_154, List.forall_mem_cons.mpr ⟨lk_8_157, List.forall_mem_cons.mpr ⟨lk_8_160, List.forall_mem_cons.mpr ⟨lk_8_163, List.forall_mem_cons.mpr ⟨lk_8_168, List.forall_mem_cons.mpr ⟨lk_8_171, List.forall_mem_cons.mpr ⟨lk_8_176, List.forall_mem_cons.mpr ⟨lk_8_181, List.forall_mem_cons.mpr ⟨lk_8_186, List.forall_mem_cons.mpr ⟨lk_8_189, List.forall_mem_cons.mpr ⟨lk_8_192, List.forall_mem_cons.mpr ⟨lk_8_195, List.forall_mem_cons.mpr ⟨lk_8_199, List.forall_mem_cons.mpr ⟨lk_8_202, List.forall_mem_cons.mpr ⟨lk_8_205, List.forall_mem_cons.mpr ⟨lk_8_210, List.forall_mem_cons.mpr ⟨lk_8_215, List.forall_mem_cons.mpr ⟨lk_8_219, List.forall_mem_cons.mpr ⟨lk_8_224, List.forall_mem_cons.mpr ⟨lk_8_228, List.forall_mem_cons.mpr ⟨lk_8_233, List.forall_mem_cons.mpr ⟨lk_8_238, List.forall_mem_cons.mpr ⟨lk_8_242, List.forall_mem_cons.mpr ⟨lk_8_245, List.forall_mem_cons.mpr ⟨lk_8_248, List.forall_mem_cons.mpr ⟨lk_8_251, List.forall_mem_cons.mpr ⟨lk_8_256, List.forall_mem_cons.mpr ⟨lk_8_259, List.forall_mem_cons.mpr ⟨lk_8_264, List.forall_mem_cons.mpr ⟨lk_8_267, List.forall_mem_cons.mpr ⟨lk_8_270, List.forall_mem_cons.mpr ⟨lk_8_275, List.forall_mem_cons.mpr ⟨lk_8_278, List.forall_mem_cons.mpr ⟨lk_8_279, List.forall_mem_cons.mpr ⟨lk_8_282, List.forall_mem_cons.mpr ⟨lk_8_293, List.forall_mem_cons.mpr ⟨lk_8_300, List.forall_mem_cons.mpr ⟨lk_8_307, List.forall_mem_cons.mpr ⟨lk_8_310, List.forall_mem_cons.mpr ⟨lk_8_313, List.forall_mem_cons.mpr ⟨lk_8_316, List.forall_mem_cons.mpr ⟨lk_8_320, List.forall_mem_cons.mpr ⟨lk_8_325, List.forall_mem_cons.mpr ⟨lk_8_328, List.forall_mem_cons.mpr ⟨lk_8_334, List.forall_mem_cons.mpr ⟨lk_8_337, List.forall_mem_cons.mpr ⟨lk_8_340, List.forall_mem_cons.mpr ⟨lk_8_343, List.forall_mem_cons.mpr ⟨lk_8_346, List.forall_mem_cons.mpr ⟨lk_8_351, List.forall_mem_cons.mpr ⟨lk_8_358, List.forall_mem_cons.mpr ⟨lk_8_363, List.forall_mem_cons.mpr ⟨lk_8_368, List.forall_mem_cons.mpr ⟨lk_8_372, List.forall_mem_cons.mpr ⟨lk_8_385, List.forall_mem_cons.mpr ⟨lk_8_388, (fun _ h => nomatch h)⟩⟩⟩⟩⟩⟩⟩⟩⟩⟩⟩⟩⟩⟩⟩⟩⟩⟩⟩⟩⟩⟩⟩⟩⟩⟩⟩⟩⟩⟩⟩⟩⟩⟩⟩⟩⟩⟩⟩⟩⟩⟩⟩⟩⟩⟩⟩⟩⟩⟩⟩⟩⟩⟩⟩⟩⟩⟩⟩⟩⟩⟩⟩⟩⟩⟩⟩⟩⟩⟩⟩⟩⟩⟩⟩⟩⟩⟩⟩⟩⟩⟩⟩⟩⟩⟩⟩⟩⟩⟩⟩⟩⟩⟩⟩⟩⟩⟩⟩
def bkT_9 : List (Nat × bkL) := [(3, kB 3), (9, kF 8 0), (13, kF 8 1), (16, kF 8 3), (19, kF 8 7), (23, kF 8 8), (26, kF 8 9), (29, kF 8 10), (32, kF 8 11), (35, kF 8 12), (38, kF 8 14), (42, kF 8 18), (46, kV (.long 3)), (48, kV (.long 8)), (50, kV (.long 15)), (52, kV (.long 2)), (54, kV (.long 1000)), (56, kV (.long 700)), (58, kF 8 6), (61, kM gX9_get), (65, kF 8 4), (68, kB 2), (74, kM gX9_in), (78, kM gX9_isNumber), (82, kM gX9_change), (85, kM gX9_isBlock), (88, kM gX9_add), (92, kM gX9_lengthOf), (96, kM gX9_breadthOf), (99, kM gX9_isBook), (103, kM gX9_measure), (106, kM gX9_isOther), (109, kM gX9_of), (112, kM gX9_isSettingValue), (115, kM gX9_boardLength), (118, kM gX9_spineBreadth), (121, kM gX9_boardBreadth), (124, kM gX9_exchange), (127, kB 0), (132, kM gX9_yieldOf), (135, kM gX9_isTooBroad), (138, kM gX9_up), (141, kM gX9_isMaterial), (144, kM gX9_unitsOf), (147, kM gX9_tapesOf), (150, kM gX9_placeOf), (153, kM gX9_has), (156, kM gX9_oneStrip), (159, kM gX9_refusalOf), (162, kM gX9_leastOf), (165, kF 8 13), (168, kM gX9_fit), (172, kM gX9_lotsOf), (175, kM gX9_stockOf), (178, kB 1), (181, kM gX9_priceAt), (184, kM gX9_listPrice), (187, kM gX9_refusalOfBook), (190, kF 8 5), (193, kM gX9_use), (196, kM gX9_worth), (200, kF 8 15), (203, kF 8 16), (206, kF 8 17), (210, kM gX9_isHere), (213, kM gX9_number), (216, kM gX9_sign), (220, kF 8 2)]
theorem lk_9_3 : LinkOK 9 3 (kB 3) := ga_c5 58 (by decide +kernel) rfl
theorem lk_9_9 : LinkOK 9 9 (kF 8 0) := ⟨_, _, _, rfl, by decide, ga_c5 65 (by decide +kernel) rfl⟩
theorem lk_9_13 : LinkOK 9 13 (kF 8 1) := ⟨_, _, _, rfl, by decide, ga_c5 66 (by decide +kernel) rfl⟩
theorem lk_9_16 : LinkOK 9 16 (kF 8 3) := ⟨_, _, _, rfl, by decide, ga_c5 68 (by decide +kernel) rfl⟩
theorem lk_9_19 : LinkOK 9 19 (kF 8 7) := ⟨_, _, _, rfl, by decide, ga_c5 72 (by decide +kernel) rfl⟩
theorem lk_9_23 : LinkOK 9 23 (kF 8 8) := ⟨_, _, _, rfl, by decide, ga_c5 73 (by decide +kernel) rfl⟩
theorem lk_9_26 : LinkOK 9 26 (kF 8 9) := ⟨_, _, _, rfl, by decide, ga_c5 74 (by decide +kernel) rfl⟩
theorem lk_9_29 : LinkOK 9 29 (kF 8 10) := ⟨_, _, _, rfl, by decide, ga_c5 75 (by decide +kernel) rfl⟩
theorem lk_9_32 : LinkOK 9 32 (kF 8 11) := ⟨_, _, _, rfl, by decide, ga_c5 76 (by decide +kernel) rfl⟩
theorem lk_9_35 : LinkOK 9 35 (kF 8 12) := ⟨_, _, _, rfl, by decide, ga_c5 77 (by decide +kernel) rfl⟩
theorem lk_9_38 : LinkOK 9 38 (kF 8 14) := ⟨_, _, _, rfl, by decide, ga_c5 79 (by decide +kernel) rfl⟩
theorem lk_9_42 : LinkOK 9 42 (kF 8 18) := ⟨_, _, _, rfl, by decide, ga_c5 83 (by decide +kernel) rfl⟩
theorem lk_9_46 : LinkOK 9 46 (kV (.long 3)) := ga_c5 59 (by decide +kernel) rfl
theorem lk_9_48 : LinkOK 9 48 (kV (.long 8)) := ga_c5 60 (by decide +kernel) rfl
theorem lk_9_50 : LinkOK 9 50 (kV (.long 15)) := ga_c5 61 (by decide +kernel) rfl
theorem lk_9_52 : LinkOK 9 52 (kV (.long 2)) := ga_c5 62 (by decide +kernel) rfl
theorem lk_9_54 : LinkOK 9 54 (kV (.long 1000)) := ga_c5 63 (by decide +kernel) rfl
theorem lk_9_56 : LinkOK 9 56 (kV (.long 700)) := ga_c5 64 (by decide +kernel) rfl
theorem lk_9_58 : LinkOK 9 58 (kF 8 6) := ⟨_, _, _, rfl, by decide, ga_c5 71 (by decide +kernel) rfl⟩
theorem lk_9_61 : LinkOK 9 61 (kM gX9_get) := ⟨ok_gX9_get, Or.inr ⟨ga_c5 142 (by decide +kernel) rfl, by decide +kernel, Or.inl ⟨ga_c5 140 (by decide +kernel) rfl, ga_c0 15 (by decide +kernel) rfl, by decide +kernel⟩⟩⟩
theorem lk_9_65 : LinkOK 9 65 (kF 8 4) := ⟨_, _, _, rfl, by decide, ga_c5 69 (by decide +kernel) rfl⟩
theorem lk_9_68 : LinkOK 9 68 (kB 2) := ga_c5 152 (by decide +kernel) rfl
theorem lk_9_74 : LinkOK 9 74 (kM gX9_in) := ⟨ok_gX9_in, Or.inl ⟨ga_c5 137 (by decide +kernel) rfl, ga_c5 138 (by decide +kernel) rfl, by decide +kernel⟩⟩
theorem lk_9_78 : LinkOK 9 78 (kM gX9_isNumber) := ⟨ok_gX9_isNumber, Or.inl ⟨ga_c5 134 (by decide +kernel) rfl, ga_c5 135 (by decide +kernel) rfl, by decide +kernel⟩⟩
theorem lk_9_82 : LinkOK 9 82 (kM gX9_change) := ⟨ok_gX9_change, Or.inr ⟨ga_c5 150 (by decide +kernel) rfl, by decide +kernel, Or.inl ⟨ga_c5 148 (by decide +kernel) rfl, ga_c0 17 (by decide +kernel) rfl, by decide +kernel⟩⟩⟩
theorem lk_9_85 : LinkOK 9 85 (kM gX9_isBlock) := ⟨ok_gX9_isBlock, Or.inl ⟨ga_c5 131 (by decide +kernel) rfl, ga_c5 132 (by decide +kernel) rfl, by decide +kernel⟩⟩
theorem lk_9_88 : LinkOK 9 88 (kM gX9_add) := ⟨ok_gX9_add, Or.inr ⟨ga_c5 146 (by decide +kernel) rfl, by decide +kernel, Or.inl ⟨ga_c5 144 (by decide +kernel) rfl, ga_c0 16 (by decide +kernel) rfl, by decide +kernel⟩⟩⟩
theorem lk_9_92 : LinkOK 9 92 (kM gX9_lengthOf) := ⟨ok_gX9_lengthOf, Or.inr ⟨ga_c5 167 (by decide +kernel) rfl, by decide +kernel, Or.inl ⟨ga_c5 165 (by decide +kernel) rfl, ga_c0 20 (by decide +kernel) rfl, by decide +kernel⟩⟩⟩
theorem lk_9_96 : LinkOK 9 96 (kM gX9_breadthOf) := ⟨ok_gX9_breadthOf, Or.inr ⟨ga_c5 179 (by decide +kernel) rfl, by decide +kernel, Or.inl ⟨ga_c5 177 (by decide +kernel) rfl, ga_c0 23 (by decide +kernel) rfl, by decide +kernel⟩⟩⟩
theorem lk_9_99 : LinkOK 9 99 (kM gX9_isBook) := ⟨ok_gX9_isBook, Or.inr ⟨ga_c5 159 (by decide +kernel) rfl, by decide +kernel, Or.inl ⟨ga_c5 157 (by decide +kernel) rfl, ga_c0 18 (by decide +kernel) rfl, by decide +kernel⟩⟩⟩
theorem lk_9_103 : LinkOK 9 103 (kM gX9_measure) := ⟨ok_gX9_measure, Or.inr ⟨ga_c5 163 (by decide +kernel) rfl, by decide +kernel, Or.inl ⟨ga_c5 161 (by decide +kernel) rfl, ga_c0 19 (by decide +kernel) rfl, by decide +kernel⟩⟩⟩
theorem lk_9_106 : LinkOK 9 106 (kM gX9_isOther) := ⟨ok_gX9_isOther, Or.inr ⟨ga_c5 191 (by decide +kernel) rfl, by decide +kernel, Or.inl ⟨ga_c5 189 (by decide +kernel) rfl, ga_c0 26 (by decide +kernel) rfl, by decide +kernel⟩⟩⟩
theorem lk_9_109 : LinkOK 9 109 (kM gX9_of) := ⟨ok_gX9_of, Or.inr ⟨ga_c5 171 (by decide +kernel) rfl, by decide +kernel, Or.inl ⟨ga_c5 169 (by decide +kernel) rfl, ga_c0 21 (by decide +kernel) rfl, by decide +kernel⟩⟩⟩
theorem lk_9_112 : LinkOK 9 112 (kM gX9_isSettingValue) := ⟨ok_gX9_isSettingValue, Or.inl ⟨ga_c5 201 (by decide +kernel) rfl, ga_c5 202 (by decide +kernel) rfl, by decide +kernel⟩⟩
theorem lk_9_115 : LinkOK 9 115 (kM gX9_boardLength) := ⟨ok_gX9_boardLength, Or.inr ⟨ga_c5 175 (by decide +kernel) rfl, by decide +kernel, Or.inl ⟨ga_c5 173 (by decide +kernel) rfl, ga_c0 22 (by decide +kernel) rfl, by decide +kernel⟩⟩⟩
theorem lk_9_118 : LinkOK 9 118 (kM gX9_spineBreadth) := ⟨ok_gX9_spineBreadth, Or.inr ⟨ga_c5 183 (by decide +kernel) rfl, by decide +kernel, Or.inl ⟨ga_c5 181 (by decide +kernel) rfl, ga_c0 24 (by decide +kernel) rfl, by decide +kernel⟩⟩⟩
theorem lk_9_121 : LinkOK 9 121 (kM gX9_boardBreadth) := ⟨ok_gX9_boardBreadth, Or.inr ⟨ga_c5 187 (by decide +kernel) rfl, by decide +kernel, Or.inl ⟨ga_c5 185 (by decide +kernel) rfl, ga_c0 25 (by decide +kernel) rfl, by decide +kernel⟩⟩⟩
theorem lk_9_124 : LinkOK 9 124 (kM gX9_exchange) := ⟨ok_gX9_exchange, Or.inr ⟨ga_c5 218 (by decide +kernel) rfl, by decide +kernel, Or.inl ⟨ga_c5 216 (by decide +kernel) rfl, ga_c0 27 (by decide +kernel) rfl, by decide +kernel⟩⟩⟩
theorem lk_9_127 : LinkOK 9 127 (kB 0) := ga_c5 232 (by decide +kernel) rfl
theorem lk_9_132 : LinkOK 9 132 (kM gX9_yieldOf) := ⟨ok_gX9_yieldOf, Or.inr ⟨ga_c5 230 (by decide +kernel) rfl, by decide +kernel, Or.inl ⟨ga_c5 228 (by decide +kernel) rfl, ga_c0 28 (by decide +kernel) rfl, by decide +kernel⟩⟩⟩
theorem lk_9_135 : LinkOK 9 135 (kM gX9_isTooBroad) := ⟨ok_gX9_isTooBroad, Or.inr ⟨ga_c6 6 (by decide +kernel) rfl, by decide +kernel, Or.inl ⟨ga_c6 4 (by decide +kernel) rfl, ga_c0 30 (by decide +kernel) rfl, by decide +kernel⟩⟩⟩
theorem lk_9_138 : LinkOK 9 138 (kM gX9_up) := ⟨ok_gX9_up, Or.inl ⟨ga_c6 8 (by decide +kernel) rfl, ga_c6 9 (by decide +kernel) rfl, by decide +kernel⟩⟩
theorem lk_9_141 : LinkOK 9 141 (kM gX9_isMaterial) := ⟨ok_gX9_isMaterial, Or.inl ⟨ga_c5 237 (by decide +kernel) rfl, ga_c5 238 (by decide +kernel) rfl, by decide +kernel⟩⟩
theorem lk_9_144 : LinkOK 9 144 (kM gX9_unitsOf) := ⟨ok_gX9_unitsOf, Or.inr ⟨ga_c6 2 (by decide +kernel) rfl, by decide +kernel, Or.inl ⟨ga_c6 0 (by decide +kernel) rfl, ga_c0 29 (by decide +kernel) rfl, by decide +kernel⟩⟩⟩
theorem lk_9_147 : LinkOK 9 147 (kM gX9_tapesOf) := ⟨ok_gX9_tapesOf, Or.inr ⟨ga_c6 21 (by decide +kernel) rfl, by decide +kernel, Or.inl ⟨ga_c6 19 (by decide +kernel) rfl, ga_c0 31 (by decide +kernel) rfl, by decide +kernel⟩⟩⟩
theorem lk_9_150 : LinkOK 9 150 (kM gX9_placeOf) := ⟨ok_gX9_placeOf, Or.inr ⟨ga_c6 29 (by decide +kernel) rfl, by decide +kernel, Or.inl ⟨ga_c6 27 (by decide +kernel) rfl, ga_c0 32 (by decide +kernel) rfl, by decide +kernel⟩⟩⟩
theorem lk_9_153 : LinkOK 9 153 (kM gX9_has) := ⟨ok_gX9_has, Or.inl ⟨ga_c6 43 (by decide +kernel) rfl, ga_c6 44 (by decide +kernel) rfl, by decide +kernel⟩⟩
theorem lk_9_156 : LinkOK 9 156 (kM gX9_oneStrip) := ⟨ok_gX9_oneStrip, Or.inr ⟨ga_c6 52 (by decide +kernel) rfl, by decide +kernel, Or.inl ⟨ga_c6 50 (by decide +kernel) rfl, ga_c0 35 (by decide +kernel) rfl, by decide +kernel⟩⟩⟩
theorem lk_9_159 : LinkOK 9 159 (kM gX9_refusalOf) := ⟨ok_gX9_refusalOf, Or.inr ⟨ga_c6 41 (by decide +kernel) rfl, by decide +kernel, Or.inl ⟨ga_c6 39 (by decide +kernel) rfl, ga_c0 33 (by decide +kernel) rfl, by decide +kernel⟩⟩⟩
theorem lk_9_162 : LinkOK 9 162 (kM gX9_leastOf) := ⟨ok_gX9_leastOf, Or.inr ⟨ga_c6 48 (by decide +kernel) rfl, by decide +kernel, Or.inl ⟨ga_c6 46 (by decide +kernel) rfl, ga_c0 34 (by decide +kernel) rfl, by decide +kernel⟩⟩⟩
theorem lk_9_165 : LinkOK 9 165 (kF 8 13) := ⟨_, _, _, rfl, by decide, ga_c5 78 (by decide +kernel) rfl⟩
theorem lk_9_168 : LinkOK 9 168 (kM gX9_fit) := ⟨ok_gX9_fit, Or.inr ⟨ga_c6 60 (by decide +kernel) rfl, by decide +kernel, Or.inl ⟨ga_c6 58 (by decide +kernel) rfl, ga_c0 36 (by decide +kernel) rfl, by decide +kernel⟩⟩⟩
theorem lk_9_172 : LinkOK 9 172 (kM gX9_lotsOf) := ⟨ok_gX9_lotsOf, Or.inr ⟨ga_c6 80 (by decide +kernel) rfl, by decide +kernel, Or.inl ⟨ga_c6 78 (by decide +kernel) rfl, ga_c0 37 (by decide +kernel) rfl, by decide +kernel⟩⟩⟩
theorem lk_9_175 : LinkOK 9 175 (kM gX9_stockOf) := ⟨ok_gX9_stockOf, Or.inr ⟨ga_c6 88 (by decide +kernel) rfl, by decide +kernel, Or.inl ⟨ga_c6 86 (by decide +kernel) rfl, ga_c0 38 (by decide +kernel) rfl, by decide +kernel⟩⟩⟩
theorem lk_9_178 : LinkOK 9 178 (kB 1) := ga_c6 134 (by decide +kernel) rfl
theorem lk_9_181 : LinkOK 9 181 (kM gX9_priceAt) := ⟨ok_gX9_priceAt, Or.inr ⟨ga_c6 100 (by decide +kernel) rfl, by decide +kernel, Or.inl ⟨ga_c6 98 (by decide +kernel) rfl, ga_c0 39 (by decide +kernel) rfl, by decide +kernel⟩⟩⟩
theorem lk_9_184 : LinkOK 9 184 (kM gX9_listPrice) := ⟨ok_gX9_listPrice, Or.inr ⟨ga_c6 112 (by decide +kernel) rfl, by decide +kernel, Or.inl ⟨ga_c6 110 (by decide +kernel) rfl, ga_c0 40 (by decide +kernel) rfl, by decide +kernel⟩⟩⟩
theorem lk_9_187 : LinkOK 9 187 (kM gX9_refusalOfBook) := ⟨ok_gX9_refusalOfBook, Or.inr ⟨ga_c6 120 (by decide +kernel) rfl, by decide +kernel, Or.inl ⟨ga_c6 118 (by decide +kernel) rfl, ga_c0 41 (by decide +kernel) rfl, by decide +kernel⟩⟩⟩
theorem lk_9_190 : LinkOK 9 190 (kF 8 5) := ⟨_, _, _, rfl, by decide, ga_c5 70 (by decide +kernel) rfl⟩
theorem lk_9_193 : LinkOK 9 193 (kM gX9_use) := ⟨ok_gX9_use, Or.inr ⟨ga_c6 132 (by decide +kernel) rfl, by decide +kernel, Or.inl ⟨ga_c6 130 (by decide +kernel) rfl, ga_c0 42 (by decide +kernel) rfl, by decide +kernel⟩⟩⟩
theorem lk_9_196 : LinkOK 9 196 (kM gX9_worth) := ⟨ok_gX9_worth, Or.inr ⟨ga_c6 149 (by decide +kernel) rfl, by decide +kernel, Or.inl ⟨ga_c6 147 (by decide +kernel) rfl, ga_c0 43 (by decide +kernel) rfl, by decide +kernel⟩⟩⟩
theorem lk_9_200 : LinkOK 9 200 (kF 8 15) := ⟨_, _, _, rfl, by decide, ga_c5 80 (by decide +kernel) rfl⟩
theorem lk_9_203 : LinkOK 9 203 (kF 8 16) := ⟨_, _, _, rfl, by decide, ga_c5 81 (by decide +kernel) rfl⟩
theorem lk_9_206 : LinkOK 9 206 (kF 8 17) := ⟨_, _, _, rfl, by decide, ga_c5 82 (by decide +kernel) rfl⟩
theorem lk_9_210 : LinkOK 9 210 (kM gX9_isHere) := ⟨ok_gX9_isHere, Or.inr ⟨ga_c6 165 (by decide +kernel) rfl, by decide +kernel, Or.inl ⟨ga_c6 163 (by decide +kernel) rfl, ga_c0 45 (by decide +kernel) rfl, by decide +kernel⟩⟩⟩
theorem lk_9_213 : LinkOK 9 213 (kM gX9_number) := ⟨ok_gX9_number, Or.inr ⟨ga_c6 161 (by decide +kernel) rfl, by decide +kernel, Or.inl ⟨ga_c6 159 (by decide +kernel) rfl, ga_c0 44 (by decide +kernel) rfl, by decide +kernel⟩⟩⟩
theorem lk_9_216 : LinkOK 9 216 (kM gX9_sign) := ⟨ok_gX9_sign, Or.inr ⟨ga_c6 169 (by decide +kernel) rfl, by decide +kernel, Or.inl ⟨ga_c6 167 (by decide +kernel) rfl, ga_c0 46 (by decide +kernel) rfl, by decide +kernel⟩⟩⟩
theorem lk_9_220 : LinkOK 9 220 (kF 8 2) := ⟨_, _, _, rfl, by decide, ga_c5 67 (by decide +kernel) rfl⟩
theorem bkT_9_ok : ∀ q ∈ bkT_9, LinkOK 9 q.1 q.2 := by
  unfold bkT_9
  exact List.forall_mem_cons.mpr ⟨lk_9_3, List.forall_mem_cons.mpr ⟨lk_9_9, List.forall_mem_cons.mpr ⟨lk_9_13, List.forall_mem_cons.mpr ⟨lk_9_16, List.forall_mem_cons.mpr ⟨lk_9_19, List.forall_mem_cons.mpr ⟨lk_9_23, List.forall_mem_cons.mpr ⟨lk_9_26, List.forall_mem_cons.mpr ⟨lk_9_29, List.forall_mem_cons.mpr ⟨lk_9_32, List.forall_mem_cons.mpr ⟨lk_9_35, List.forall_mem_cons.mpr ⟨lk_9_38, List.forall_mem_cons.mpr ⟨lk_9_42, List.forall_mem_cons.mpr ⟨lk_9_46, List.forall_mem_cons.mpr ⟨lk_9_48, List.forall_mem_cons.mpr ⟨lk_9_50, List.forall_mem_cons.mpr ⟨lk_9_52, List.forall_mem_cons.mpr ⟨lk_9_54, List.forall_mem_cons.mpr ⟨lk_9_56, List.forall_mem_cons.mpr ⟨lk_9_58, List.forall_mem_cons.mpr ⟨lk_9_61, List.forall_mem_cons.mpr ⟨lk_9_65, List.forall_mem_cons.mpr ⟨lk_9_68, List.forall_mem_cons.mpr ⟨lk_9_74, List.forall_mem_cons.mpr ⟨lk_9_78, List.forall_mem_cons.mpr ⟨lk_9_82, List.forall_mem_cons.mpr ⟨lk_9_85, List.forall_mem_cons.mpr ⟨lk_9_88, List.forall_mem_cons.mpr ⟨lk_9_92, List.forall_mem_cons.mpr ⟨lk_9_96, List.forall_mem_cons.mpr ⟨lk_9_99, List.forall_mem_cons.mpr ⟨lk_9_103, List.forall_mem_cons.mpr ⟨lk_9_106, List.forall_mem_cons.mpr ⟨lk_9_109, List.forall_mem_cons.mpr ⟨lk_9_112, List.forall_mem_cons.mpr ⟨lk_9_115, List.forall_mem_cons.mpr ⟨lk_9_118, List.forall_mem_cons.mpr ⟨lk_9_121, List.forall_mem_cons.mpr ⟨lk_9_124, List.forall_mem_cons.mpr ⟨lk_9_127, List.forall_mem_cons.mpr ⟨lk_9_132, List.forall_mem_cons.mpr ⟨lk_9_135, List.forall_mem_cons.mpr ⟨lk_9_138, List.forall_mem_cons.mpr ⟨lk_9_141, List.forall_mem_cons.mpr ⟨lk_9_144, List.forall_mem_cons.mpr ⟨lk_9_147, List.forall_mem_cons.mpr ⟨lk_9_150, List.forall_mem_cons.mpr ⟨lk_9_153, List.forall_mem_cons.mpr ⟨lk_9_156, List.forall_mem_cons.mpr ⟨lk_9_159, List.forall_mem_cons.mpr ⟨lk_9_162, List.forall_mem_cons.mpr ⟨lk_9_165, List.forall_mem_cons.mpr ⟨lk_9_168, List.forall_mem_cons.mpr ⟨lk_9_172, List.forall_mem_cons.mpr ⟨lk_9_175, List.forall_mem_cons.mpr ⟨lk_9_178, List.forall_mem_cons.mpr ⟨lk_9_181, List.forall_mem_cons.mpr ⟨lk_9_184, List.forall_mem_cons.mpr ⟨lk_9_187, List.forall_mem_cons.mpr ⟨lk_9_190, List.forall_mem_cons.mpr ⟨lk_9_193, List.forall_mem_cons.mpr ⟨lk_9_196, List.forall_mem_cons.mpr ⟨lk_9_200, List.forall_mem_cons.mpr ⟨lk_9_203, List.forall_mem_cons.mpr ⟨lk_9_206, List.forall_mem_cons.mpr ⟨lk_9_210, List.forall_mem_cons.mpr ⟨lk_9_213, List.forall_mem_cons.mpr ⟨lk_9_216, List.forall_mem_cons.mpr ⟨lk_9_220, (fun _ h => nomatch h)⟩⟩⟩⟩⟩⟩⟩⟩⟩⟩⟩⟩⟩⟩⟩⟩⟩⟩⟩⟩⟩⟩⟩⟩⟩⟩⟩⟩⟩⟩⟩⟩⟩⟩⟩⟩⟩⟩⟩⟩⟩⟩⟩⟩⟩⟩⟩⟩⟩⟩⟩⟩⟩⟩⟩⟩⟩⟩⟩⟩⟩⟩⟩⟩⟩⟩⟩⟩
def bkT_10 : List (Nat × bkL) := [(7, kM gX8_addBook), (8, kC 7), (13, kX 1 0), (15, kX 2 0), (17, kM gX8_setBlock), (20, kX 0 0), (22, kM gX8_block), (26, kM gX8_set), (29, kM gX8_setting), (33, kM gX8_piece), (37, kM gX8_wouldRefuse), (40, kM gX8_setSheet), (44, kM gX8_sheet), (47, kM gX8_perSheet), (50, kX 3 0), (52, kM gX8_needed), (55, kX 4 0), (57, kM gX8_boardShare), (61, kX 5 0), (63, kM gX8_tapes), (66, kM gX8_station), (69, kM gX8_widestGap), (72, kM gX8_leastCloth), (75, kM gX8_fittedCloth), (78, kM gX8_strip), (81, kM gX8_strips), (84, kM gX8_clothWaste), (87, kM gX8_buy), (90, kM gX8_stock), (93, kM gX8_lot), (96, kM gX8_setPrice), (99, kM gX8_dropPrice), (102, kM gX8_price), (105, kM gX8_cost), (108, kM gX8_make), (111, kM gX8_refusal), (115, kM gX8_pass), (118, kM gX8_account), (122, kM gX8_append), (126, kM gX8_readBook), (129, kM gX8_undo), (132, kM gX8_restore), (135, kM gX8_init), (136, kC 8), (138, kM gX9_init), (139, kM gL_addBook), (144, kM gX9_addBook), (145, kM gX9_thrown), (148, kM gL_setBlock), (150, kM gX9_setBlock), (151, kM gL_block), (154, kM gX9_block), (155, kM gL_set), (157, kM gX9_set), (158, kM gL_setting), (161, kM gX9_setting), (162, kM gL_piece), (165, kM gX9_piece), (166, kM gL_wouldRefuse), (168, kM gX9_wouldRefuse), (169, kM gL_setSheet), (172, kM gX9_setSheet), (173, kM gL_sheet), (175, kM gX9_sheet), (176, kM gL_perSheet), (178, kM gX9_perSheet), (179, kM gL_needed), (181, kM gX9_needed), (182, kM gL_boardShare), (185, kM gX9_boardShare), (186, kM gL_tapes), (188, kM gX9_tapes), (189, kM gL_station), (191, kM gX9_station), (192, kM gL_widestGap), (194, kM gX9_widestGap), (195, kM gL_leastCloth), (197, kM gX9_leastCloth), (198, kM gL_fittedCloth), (200, kM gX9_fittedCloth), (201, kM gL_strip), (203, kM gX9_strip), (204, kM gL_strips), (206, kM gX9_strips), (207, kM gL_clothWaste), (209, kM gX9_clothWaste), (210, kM gL_buy), (212, kM gX9_buy), (213, kM gL_stock), (215, kM gX9_stock), (216, kM gL_lot), (218, kM gX9_lot), (219, kM gL_setPrice), (221, kM gX9_setPrice), (222, kM gL_dropPrice), (224, kM gX9_dropPrice), (225, kM gL_price), (227, kM gX9_price), (228, kM gL_cost), (230, kM gX9_cost), (231, kM gL_make), (233, kM gX9_make), (234, kM gL_refusal), (237, kM gX9_refusal), (238, kM gL_pass), (240, kM gX9_pass), (241, kM gL_account), (243, kM gX9_account), (244, kM gL_append), (247, kM gX9_append), (248, kM gL_readBook), (250, kM gX9_readBook), (251, kM gX8_faultPosition), (254, kM gX9_faultPosition), (255, kM gL_undo), (257, kM gX9_undo), (258, kM gX8_save), (261, kM gX9_save), (262, kM gL_restore), (265, kM gX9_restore)]
theorem lk_10_7 : LinkOK 10 7 (kM gX8_addBook) := ⟨ok_gX8_addBook, Or.inr ⟨ga_c2 49 (by decide +kernel) rfl, by decide +kernel, Or.inl ⟨ga_c2 48 (by decide +kernel) rfl, ga_c2 50 (by decide +kernel) rfl, by decide +kernel⟩⟩⟩
theorem lk_10_8 : LinkOK 10 8 (kC 7) := ⟨_, _, _, rfl, ga_c1 25 (by decide +kernel) rfl, ga_c1 26 (by decide +kernel) rfl, ga_c1 1 (by decide +kernel) rfl⟩
theorem lk_10_13 : LinkOK 10 13 (kX 1 0) := ⟨ga_c2 46 (by decide +kernel) rfl, by decide, nw_c2 65 (by decide +kernel) rfl, fun h => absurd rfl h⟩
theorem lk_10_15 : LinkOK 10 15 (kX 2 0) := ⟨ga_c2 47 (by decide +kernel) rfl, by decide, nw_c2 137 (by decide +kernel) rfl, fun h => absurd rfl h⟩
theorem lk_10_17 : LinkOK 10 17 (kM gX8_setBlock) := ⟨ok_gX8_setBlock, Or.inr ⟨ga_c2 195 (by decide +kernel) rfl, by decide +kernel, Or.inl ⟨ga_c2 194 (by decide +kernel) rfl, ga_c2 196 (by decide +kernel) rfl, by decide +kernel⟩⟩⟩
theorem lk_10_20 : LinkOK 10 20 (kX 0 0) := ⟨ga_c2 170 (by decide +kernel) rfl, by decide, nw_c2 204 (by decide +kernel) rfl, fun h => absurd rfl h⟩
theorem lk_10_22 : LinkOK 10 22 (kM gX8_block) := ⟨ok_gX8_block, Or.inr ⟨ga_c3 1 (by decide +kernel) rfl, by decide +kernel, Or.inl ⟨ga_c3 0 (by decide +kernel) rfl, ga_c3 2 (by decide +kernel) rfl, by decide +kernel⟩⟩⟩
theorem lk_10_26 : LinkOK 10 26 (kM gX8_set) := ⟨ok_gX8_set, Or.inr ⟨ga_c3 10 (by decide +kernel) rfl, by decide +kernel, Or.inl ⟨ga_c3 9 (by decide +kernel) rfl, ga_c3 11 (by decide +kernel) rfl, by decide +kernel⟩⟩⟩
theorem lk_10_29 : LinkOK 10 29 (kM gX8_setting) := ⟨ok_gX8_setting, Or.inr ⟨ga_c3 32 (by decide +kernel) rfl, by decide +kernel, Or.inl ⟨ga_c3 31 (by decide +kernel) rfl, ga_c3 33 (by decide +kernel) rfl, by decide +kernel⟩⟩⟩
theorem lk_10_33 : LinkOK 10 33 (kM gX8_piece) := ⟨ok_gX8_piece, Or.inr ⟨ga_c3 39 (by decide +kernel) rfl, by decide +kernel, Or.inl ⟨ga_c3 38 (by decide +kernel) rfl, ga_c3 40 (by decide +kernel) rfl, by decide +kernel⟩⟩⟩
theorem lk_10_37 : LinkOK 10 37 (kM gX8_wouldRefuse) := ⟨ok_gX8_wouldRefuse, Or.inr ⟨ga_c3 52 (by decide +kernel) rfl, by decide +kernel, Or.inl ⟨ga_c3 51 (by decide +kernel) rfl, ga_c3 53 (by decide +kernel) rfl, by decide +kernel⟩⟩⟩
theorem lk_10_40 : LinkOK 10 40 (kM gX8_setSheet) := ⟨ok_gX8_setSheet, Or.inr ⟨ga_c3 100 (by decide +kernel) rfl, by decide +kernel, Or.inl ⟨ga_c3 99 (by decide +kernel) rfl, ga_c3 101 (by decide +kernel) rfl, by decide +kernel⟩⟩⟩
theorem lk_10_44 : LinkOK 10 44 (kM gX8_sheet) := ⟨ok_gX8_sheet, Or.inr ⟨ga_c3 120 (by decide +kernel) rfl, by decide +kernel, Or.inl ⟨ga_c3 119 (by decide +kernel) rfl, ga_c3 121 (by decide +kernel) rfl, by decide +kernel⟩⟩⟩
theorem lk_10_47 : LinkOK 10 47 (kM gX8_perSheet) := ⟨ok_gX8_perSheet, Or.inr ⟨ga_c3 129 (by decide +kernel) rfl, by decide +kernel, Or.inl ⟨ga_c3 128 (by decide +kernel) rfl, ga_c3 130 (by decide +kernel) rfl, by decide +kernel⟩⟩⟩
theorem lk_10_50 : LinkOK 10 50 (kX 3 0) := ⟨ga_c3 127 (by decide +kernel) rfl, by decide, nw_c3 134 (by decide +kernel) rfl, fun h => absurd rfl h⟩
theorem lk_10_52 : LinkOK 10 52 (kM gX8_needed) := ⟨ok_gX8_needed, Or.inr ⟨ga_c3 154 (by decide +kernel) rfl, by decide +kernel, Or.inl ⟨ga_c3 153 (by decide +kernel) rfl, ga_c3 155 (by decide +kernel) rfl, by decide +kernel⟩⟩⟩
theorem lk_10_55 : LinkOK 10 55 (kX 4 0) := ⟨ga_c3 152 (by decide +kernel) rfl, by decide, nw_c3 164 (by decide +kernel) rfl, fun h => absurd rfl h⟩
theorem lk_10_57 : LinkOK 10 57 (kM gX8_boardShare) := ⟨ok_gX8_boardShare, Or.inr ⟨ga_c3 196 (by decide +kernel) rfl, by decide +kernel, Or.inl ⟨ga_c3 195 (by decide +kernel) rfl, ga_c3 197 (by decide +kernel) rfl, by decide +kernel⟩⟩⟩
theorem lk_10_61 : LinkOK 10 61 (kX 5 0) := ⟨ga_c3 181 (by decide +kernel) rfl, by decide, nw_c3 193 (by decide +kernel) rfl, fun h => absurd rfl h⟩
theorem lk_10_63 : LinkOK 10 63 (kM gX8_tapes) := ⟨ok_gX8_tapes, Or.inr ⟨ga_c3 207 (by decide +kernel) rfl, by decide +kernel, Or.inl ⟨ga_c3 206 (by decide +kernel) rfl, ga_c3 208 (by decide +kernel) rfl, by decide +kernel⟩⟩⟩
theorem lk_10_66 : LinkOK 10 66 (kM gX8_station) := ⟨ok_gX8_station, Or.inr ⟨ga_c3 217 (by decide +kernel) rfl, by decide +kernel, Or.inl ⟨ga_c3 216 (by decide +kernel) rfl, ga_c3 218 (by decide +kernel) rfl, by decide +kernel⟩⟩⟩
theorem lk_10_69 : LinkOK 10 69 (kM gX8_widestGap) := ⟨ok_gX8_widestGap, Or.inr ⟨ga_c3 233 (by decide +kernel) rfl, by decide +kernel, Or.inl ⟨ga_c3 232 (by decide +kernel) rfl, ga_c3 234 (by decide +kernel) rfl, by decide +kernel⟩⟩⟩
theorem lk_10_72 : LinkOK 10 72 (kM gX8_leastCloth) := ⟨ok_gX8_leastCloth, Or.inr ⟨ga_c4 5 (by decide +kernel) rfl, by decide +kernel, Or.inl ⟨ga_c4 4 (by decide +kernel) rfl, ga_c4 6 (by decide +kernel) rfl, by decide +kernel⟩⟩⟩
theorem lk_10_75 : LinkOK 10 75 (kM gX8_fittedCloth) := ⟨ok_gX8_fittedCloth, Or.inr ⟨ga_c4 42 (by decide +kernel) rfl, by decide +kernel, Or.inl ⟨ga_c4 41 (by decide +kernel) rfl, ga_c4 43 (by decide +kernel) rfl, by decide +kernel⟩⟩⟩
theorem lk_10_78 : LinkOK 10 78 (kM gX8_strip) := ⟨ok_gX8_strip, Or.inr ⟨ga_c4 57 (by decide +kernel) rfl, by decide +kernel, Or.inl ⟨ga_c4 56 (by decide +kernel) rfl, ga_c4 58 (by decide +kernel) rfl, by decide +kernel⟩⟩⟩
theorem lk_10_81 : LinkOK 10 81 (kM gX8_strips) := ⟨ok_gX8_strips, Or.inr ⟨ga_c4 69 (by decide +kernel) rfl, by decide +kernel, Or.inl ⟨ga_c4 68 (by decide +kernel) rfl, ga_c4 70 (by decide +kernel) rfl, by decide +kernel⟩⟩⟩
theorem lk_10_84 : LinkOK 10 84 (kM gX8_clothWaste) := ⟨ok_gX8_clothWaste, Or.inr ⟨ga_c4 76 (by decide +kernel) rfl, by decide +kernel, Or.inl ⟨ga_c4 75 (by decide +kernel) rfl, ga_c4 77 (by decide +kernel) rfl, by decide +kernel⟩⟩⟩
theorem lk_10_87 : LinkOK 10 87 (kM gX8_buy) := ⟨ok_gX8_buy, Or.inr ⟨ga_c4 88 (by decide +kernel) rfl, by decide +kernel, Or.inl ⟨ga_c4 87 (by decide +kernel) rfl, ga_c4 89 (by decide +kernel) rfl, by decide +kernel⟩⟩⟩
theorem lk_10_90 : LinkOK 10 90 (kM gX8_stock) := ⟨ok_gX8_stock, Or.inr ⟨ga_c4 108 (by decide +kernel) rfl, by decide +kernel, Or.inl ⟨ga_c4 107 (by decide +kernel) rfl, ga_c4 109 (by decide +kernel) rfl, by decide +kernel⟩⟩⟩
theorem lk_10_93 : LinkOK 10 93 (kM gX8_lot) := ⟨ok_gX8_lot, Or.inr ⟨ga_c4 116 (by decide +kernel) rfl, by decide +kernel, Or.inl ⟨ga_c4 115 (by decide +kernel) rfl, ga_c4 117 (by decide +kernel) rfl, by decide +kernel⟩⟩⟩
theorem lk_10_96 : LinkOK 10 96 (kM gX8_setPrice) := ⟨ok_gX8_setPrice, Or.inr ⟨ga_c4 128 (by decide +kernel) rfl, by decide +kernel, Or.inl ⟨ga_c4 127 (by decide +kernel) rfl, ga_c4 129 (by decide +kernel) rfl, by decide +kernel⟩⟩⟩
theorem lk_10_99 : LinkOK 10 99 (kM gX8_dropPrice) := ⟨ok_gX8_dropPrice, Or.inr ⟨ga_c4 146 (by decide +kernel) rfl, by decide +kernel, Or.inl ⟨ga_c4 145 (by decide +kernel) rfl, ga_c4 147 (by decide +kernel) rfl, by decide +kernel⟩⟩⟩
theorem lk_10_102 : LinkOK 10 102 (kM gX8_price) := ⟨ok_gX8_price, Or.inr ⟨ga_c4 158 (by decide +kernel) rfl, by decide +kernel, Or.inl ⟨ga_c4 157 (by decide +kernel) rfl, ga_c4 159 (by decide +kernel) rfl, by decide +kernel⟩⟩⟩
theorem lk_10_105 : LinkOK 10 105 (kM gX8_cost) := ⟨ok_gX8_cost, Or.inr ⟨ga_c4 170 (by decide +kernel) rfl, by decide +kernel, Or.inl ⟨ga_c4 169 (by decide +kernel) rfl, ga_c4 171 (by decide +kernel) rfl, by decide +kernel⟩⟩⟩
theorem lk_10_108 : LinkOK 10 108 (kM gX8_make) := ⟨ok_gX8_make, Or.inr ⟨ga_c4 179 (by decide +kernel) rfl, by decide +kernel, Or.inl ⟨ga_c4 178 (by decide +kernel) rfl, ga_c4 180 (by decide +kernel) rfl, by decide +kernel⟩⟩⟩
theorem lk_10_111 : LinkOK 10 111 (kM gX8_refusal) := ⟨ok_gX8_refusal, Or.inr ⟨ga_c4 200 (by decide +kernel) rfl, by decide +kernel, Or.inl ⟨ga_c4 199 (by decide +kernel) rfl, ga_c4 201 (by decide +kernel) rfl, by decide +kernel⟩⟩⟩
theorem lk_10_115 : LinkOK 10 115 (kM gX8_pass) := ⟨ok_gX8_pass, Or.inr ⟨ga_c4 208 (by decide +kernel) rfl, by decide +kernel, Or.inl ⟨ga_c4 207 (by decide +kernel) rfl, ga_c4 209 (by decide +kernel) rfl, by decide +kernel⟩⟩⟩
theorem lk_10_118 : LinkOK 10 118 (kM gX8_account) := ⟨ok_gX8_account, Or.inr ⟨ga_c4 217 (by decide +kernel) rfl, by decide +kernel, Or.inl ⟨ga_c4 216 (by decide +kernel) rfl, ga_c4 218 (by decide +kernel) rfl, by decide +kernel⟩⟩⟩
theorem lk_10_122 : LinkOK 10 122 (kM gX8_append) := ⟨ok_gX8_append, Or.inr ⟨ga_c4 229 (by decide +kernel) rfl, by decide +kernel, Or.inl ⟨ga_c4 228 (by decide +kernel) rfl, ga_c4 230 (by decide +kernel) rfl, by decide +kernel⟩⟩⟩
theorem lk_10_126 : LinkOK 10 126 (kM gX8_readBook) := ⟨ok_gX8_readBook, Or.inr ⟨ga_c5 1 (by decide +kernel) rfl, by decide +kernel, Or.inl ⟨ga_c5 0 (by decide +kernel) rfl, ga_c5 2 (by decide +kernel) rfl, by decide +kernel⟩⟩⟩
theorem lk_10_129 : LinkOK 10 129 (kM gX8_undo) := ⟨ok_gX8_undo, Or.inr ⟨ga_c5 33 (by decide +kernel) rfl, by decide +kernel, Or.inl ⟨ga_c5 32 (by decide +kernel) rfl, ga_c5 34 (by decide +kernel) rfl, by decide +kernel⟩⟩⟩
theorem lk_10_132 : LinkOK 10 132 (kM gX8_restore) := ⟨ok_gX8_restore, Or.inr ⟨ga_c5 45 (by decide +kernel) rfl, by decide +kernel, Or.inl ⟨ga_c5 44 (by decide +kernel) rfl, ga_c5 46 (by decide +kernel) rfl, by decide +kernel⟩⟩⟩
theorem lk_10_135 : LinkOK 10 135 (kM gX8_init) := ⟨ok_gX8_init, Or.inr ⟨ga_c1 28 (by decide +kernel) rfl, by decide +kernel, Or.inr ⟨by decide +kernel, rfl, rfl, Or.inl (ga_c1 27 (by decide +kernel) rfl)⟩⟩⟩
theorem lk_10_136 : LinkOK 10 136 (kC 8) := ⟨_, _, _, rfl, ga_c5 53 (by decide +kernel) rfl, ga_c5 54 (by decide +kernel) rfl, ga_c1 10 (by decide +kernel) rfl⟩
theorem lk_10_138 : LinkOK 10 138 (kM gX9_init) := ⟨ok_gX9_init, Or.inr ⟨ga_c5 56 (by decide +kernel) rfl, by decide +kernel, Or.inr ⟨by decide +kernel, rfl, rfl, Or.inl (ga_c5 55 (by decide +kernel) rfl)⟩⟩⟩
theorem lk_10_139 : LinkOK 10 139 (kM gL_addBook) := ⟨ok_gL_addBook, Or.inl ⟨ga_c2 43 (by decide +kernel) rfl, ga_c2 44 (by decide +kernel) rfl, by decide +kernel⟩⟩
theorem lk_10_144 : LinkOK 10 144 (kM gX9_addBook) := ⟨ok_gX9_addBook, Or.inr ⟨ga_c5 128 (by decide +kernel) rfl, by decide +kernel, Or.inl ⟨ga_c5 127 (by decide +kernel) rfl, ga_c5 129 (by decide +kernel) rfl, by decide +kernel⟩⟩⟩
theorem lk_10_145 : LinkOK 10 145 (kM gX9_thrown) := ⟨ok_gX9_thrown, Or.inr ⟨ga_c5 124 (by decide +kernel) rfl, by decide +kernel, Or.inl ⟨ga_c5 123 (by decide +kernel) rfl, ga_c5 125 (by decide +kernel) rfl, by decide +kernel⟩⟩⟩
theorem lk_10_148 : LinkOK 10 148 (kM gL_setBlock) := ⟨ok_gL_setBlock, Or.inl ⟨ga_c2 167 (by decide +kernel) rfl, ga_c2 168 (by decide +kernel) rfl, by decide +kernel⟩⟩
theorem lk_10_150 : LinkOK 10 150 (kM gX9_setBlock) := ⟨ok_gX9_setBlock, Or.inr ⟨ga_c5 154 (by decide +kernel) rfl, by decide +kernel, Or.inl ⟨ga_c5 153 (by decide +kernel) rfl, ga_c5 155 (by decide +kernel) rfl, by decide +kernel⟩⟩⟩
theorem lk_10_151 : LinkOK 10 151 (kM gL_block) := ⟨ok_gL_block, Or.inl ⟨ga_c2 237 (by decide +kernel) rfl, ga_c2 238 (by decide +kernel) rfl, by decide +kernel⟩⟩
theorem lk_10_154 : LinkOK 10 154 (kM gX9_block) := ⟨ok_gX9_block, Or.inr ⟨ga_c5 194 (by decide +kernel) rfl, by decide +kernel, Or.inl ⟨ga_c5 193 (by decide +kernel) rfl, ga_c5 195 (by decide +kernel) rfl, by decide +kernel⟩⟩⟩
theorem lk_10_155 : LinkOK 10 155 (kM gL_set) := ⟨ok_gL_set, Or.inl ⟨ga_c3 6 (by decide +kernel) rfl, ga_c3 7 (by decide +kernel) rfl, by decide +kernel⟩⟩
theorem lk_10_157 : LinkOK 10 157 (kM gX9_set) := ⟨ok_gX9_set, Or.inr ⟨ga_c5 198 (by decide +kernel) rfl, by decide +kernel, Or.inl ⟨ga_c5 197 (by decide +kernel) rfl, ga_c5 199 (by decide +kernel) rfl, by decide +kernel⟩⟩⟩
theorem lk_10_158 : LinkOK 10 158 (kM gL_setting) := ⟨ok_gL_setting, Or.inl ⟨ga_c3 28 (by decide +kernel) rfl, ga_c3 29 (by decide +kernel) rfl, by decide +kernel⟩⟩
theorem lk_10_161 : LinkOK 10 161 (kM gX9_setting) := ⟨ok_gX9_setting, Or.inr ⟨ga_c5 205 (by decide +kernel) rfl, by decide +kernel, Or.inl ⟨ga_c5 204 (by decide +kernel) rfl, ga_c5 206 (by decide +kernel) rfl, by decide +kernel⟩⟩⟩
theorem lk_10_162 : LinkOK 10 162 (kM gL_piece) := ⟨ok_gL_piece, Or.inl ⟨ga_c3 35 (by decide +kernel) rfl, ga_c3 36 (by decide +kernel) rfl, by decide +kernel⟩⟩
theorem lk_10_165 : LinkOK 10 165 (kM gX9_piece) := ⟨ok_gX9_piece, Or.inr ⟨ga_c5 209 (by decide +kernel) rfl, by decide +kernel, Or.inl ⟨ga_c5 208 (by decide +kernel) rfl, ga_c5 210 (by decide +kernel) rfl, by decide +kernel⟩⟩⟩
theorem lk_10_166 : LinkOK 10 166 (kM gL_wouldRefuse) := ⟨ok_gL_wouldRefuse, Or.inl ⟨ga_c3 48 (by decide +kernel) rfl, ga_c3 49 (by decide +kernel) rfl, by decide +kernel⟩⟩
theorem lk_10_168 : LinkOK 10 168 (kM gX9_wouldRefuse) := ⟨ok_gX9_wouldRefuse, Or.inr ⟨ga_c6 115 (by decide +kernel) rfl, by decide +kernel, Or.inl ⟨ga_c6 114 (by decide +kernel) rfl, ga_c6 116 (by decide +kernel) rfl, by decide +kernel⟩⟩⟩
theorem lk_10_169 : LinkOK 10 169 (kM gL_setSheet) := ⟨ok_gL_setSheet, Or.inl ⟨ga_c3 96 (by decide +kernel) rfl, ga_c3 97 (by decide +kernel) rfl, by decide +kernel⟩⟩
theorem lk_10_172 : LinkOK 10 172 (kM gX9_setSheet) := ⟨ok_gX9_setSheet, Or.inr ⟨ga_c5 213 (by decide +kernel) rfl, by decide +kernel, Or.inl ⟨ga_c5 212 (by decide +kernel) rfl, ga_c5 214 (by decide +kernel) rfl, by decide +kernel⟩⟩⟩
theorem lk_10_173 : LinkOK 10 173 (kM gL_sheet) := ⟨ok_gL_sheet, Or.inl ⟨ga_c3 116 (by decide +kernel) rfl, ga_c3 117 (by decide +kernel) rfl, by decide +kernel⟩⟩
theorem lk_10_175 : LinkOK 10 175 (kM gX9_sheet) := ⟨ok_gX9_sheet, Or.inr ⟨ga_c5 221 (by decide +kernel) rfl, by decide +kernel, Or.inl ⟨ga_c5 220 (by decide +kernel) rfl, ga_c5 222 (by decide +kernel) rfl, by decide +kernel⟩⟩⟩
theorem lk_10_176 : LinkOK 10 176 (kM gL_perSheet) := ⟨ok_gL_perSheet, Or.inl ⟨ga_c3 124 (by decide +kernel) rfl, ga_c3 125 (by decide +kernel) rfl, by decide +kernel⟩⟩
theorem lk_10_178 : LinkOK 10 178 (kM gX9_perSheet) := ⟨ok_gX9_perSheet, Or.inr ⟨ga_c5 225 (by decide +kernel) rfl, by decide +kernel, Or.inl ⟨ga_c5 224 (by decide +kernel) rfl, ga_c5 226 (by decide +kernel) rfl, by decide +kernel⟩⟩⟩
theorem lk_10_179 : LinkOK 10 179 (kM gL_needed) := ⟨ok_gL_needed, Or.inl ⟨ga_c3 149 (by decide +kernel) rfl, ga_c3 150 (by decide +kernel) rfl, by decide +kernel⟩⟩
theorem lk_10_181 : LinkOK 10 181 (kM gX9_needed) := ⟨ok_gX9_needed, Or.inr ⟨ga_c5 234 (by decide +kernel) rfl, by decide +kernel, Or.inl ⟨ga_c5 233 (by decide +kernel) rfl, ga_c5 235 (by decide +kernel) rfl, by decide +kernel⟩⟩⟩
theorem lk_10_182 : LinkOK 10 182 (kM gL_boardShare) := ⟨ok_gL_boardShare, Or.inl ⟨ga_c3 178 (by decide +kernel) rfl, ga_c3 179 (by decide +kernel) rfl, by decide +kernel⟩⟩
theorem lk_10_185 : LinkOK 10 185 (kM gX9_boardShare) := ⟨ok_gX9_boardShare, Or.inr ⟨ga_c6 12 (by decide +kernel) rfl, by decide +kernel, Or.inl ⟨ga_c6 11 (by decide +kernel) rfl, ga_c6 13 (by decide +kernel) rfl, by decide +kernel⟩⟩⟩
theorem lk_10_186 : LinkOK 10 186 (kM gL_tapes) := ⟨ok_gL_tapes, Or.inl ⟨ga_c3 203 (by decide +kernel) rfl, ga_c3 204 (by decide +kernel) rfl, by decide +kernel⟩⟩
theorem lk_10_188 : LinkOK 10 188 (kM gX9_tapes) := ⟨ok_gX9_tapes, Or.inr ⟨ga_c6 16 (by decide +kernel) rfl, by decide +kernel, Or.inl ⟨ga_c6 15 (by decide +kernel) rfl, ga_c6 17 (by decide +kernel) rfl, by decide +kernel⟩⟩⟩
theorem lk_10_189 : LinkOK 10 189 (kM gL_station) := ⟨ok_gL_station, Or.inl ⟨ga_c3 213 (by decide +kernel) rfl, ga_c3 214 (by decide +kernel) rfl, by decide +kernel⟩⟩
theorem lk_10_191 : LinkOK 10 191 (kM gX9_station) := ⟨ok_gX9_station, Or.inr ⟨ga_c6 24 (by decide +kernel) rfl, by decide +kernel, Or.inl ⟨ga_c6 23 (by decide +kernel) rfl, ga_c6 25 (by decide +kernel) rfl, by decide +kernel⟩⟩⟩
theorem lk_10_192 : LinkOK 10 192 (kM gL_widestGap) := ⟨ok_gL_widestGap, Or.inl ⟨ga_c3 229 (by decide +kernel) rfl, ga_c3 230 (by decide +kernel) rfl, by decide +kernel⟩⟩
theorem lk_10_194 : LinkOK 10 194 (kM gX9_widestGap) := ⟨ok_gX9_widestGap, Or.inr ⟨ga_c6 32 (by decide +kernel) rfl, by decide +kernel, Or.inl ⟨ga_c6 31 (by decide +kernel) rfl, ga_c6 33 (by decide +kernel) rfl, by decide +kernel⟩⟩⟩
theorem lk_10_195 : LinkOK 10 195 (kM gL_leastCloth) := ⟨ok_gL_leastCloth, Or.inl ⟨ga_c4 1 (by decide +kernel) rfl, ga_c4 2 (by decide +kernel) rfl, by decide +kernel⟩⟩
theorem lk_10_197 : LinkOK 10 197 (kM gX9_leastCloth) := ⟨ok_gX9_leastCloth, Or.inr ⟨ga_c6 36 (by decide +kernel) rfl, by decide +kernel, Or.inl ⟨ga_c6 35 (by decide +kernel) rfl, ga_c6 37 (by decide +kernel) rfl, by decide +kernel⟩⟩⟩
theorem lk_10_198 : LinkOK 10 198 (kM gL_fittedCloth) := ⟨ok_gL_fittedCloth, Or.inl ⟨ga_c4 38 (by decide +kernel) rfl, ga_c4 39 (by decide +kernel) rfl, by decide +kernel⟩⟩
theorem lk_10_200 : LinkOK 10 200 (kM gX9_fittedCloth) := ⟨ok_gX9_fittedCloth, Or.inr ⟨ga_c6 55 (by decide +kernel) rfl, by decide +kernel, Or.inl ⟨ga_c6 54 (by decide +kernel) rfl, ga_c6 56 (by decide +kernel) rfl, by decide +kernel⟩⟩⟩
theorem lk_10_201 : LinkOK 10 201 (kM gL_strip) := ⟨ok_gL_strip, Or.inl ⟨ga_c4 53 (by decide +kernel) rfl, ga_c4 54 (by decide +kernel) rfl, by decide +kernel⟩⟩
theorem lk_10_203 : LinkOK 10 203 (kM gX9_strip) := ⟨ok_gX9_strip, Or.inr ⟨ga_c6 63 (by decide +kernel) rfl, by decide +kernel, Or.inl ⟨ga_c6 62 (by decide +kernel) rfl, ga_c6 64 (by decide +kernel) rfl, by decide +kernel⟩⟩⟩
theorem lk_10_204 : LinkOK 10 204 (kM gL_strips) := ⟨ok_gL_strips, Or.inl ⟨ga_c4 65 (by decide +kernel) rfl, ga_c4 66 (by decide +kernel) rfl, by decide +kernel⟩⟩
theorem lk_10_206 : LinkOK 10 206 (kM gX9_strips) := ⟨ok_gX9_strips, Or.inr ⟨ga_c6 67 (by decide +kernel) rfl, by decide +kernel, Or.inl ⟨ga_c6 66 (by decide +kernel) rfl, ga_c6 68 (by decide +kernel) rfl, by decide +kernel⟩⟩⟩
theorem lk_10_207 : LinkOK 10 207 (kM gL_clothWaste) := ⟨ok_gL_clothWaste, Or.inl ⟨ga_c4 72 (by decide +kernel) rfl, ga_c4 73 (by decide +kernel) rfl, by decide +kernel⟩⟩
theorem lk_10_209 : LinkOK 10 209 (kM gX9_clothWaste) := ⟨ok_gX9_clothWaste, Or.inr ⟨ga_c6 71 (by decide +kernel) rfl, by decide +kernel, Or.inl ⟨ga_c6 70 (by decide +kernel) rfl, ga_c6 72 (by decide +kernel) rfl, by decide +kernel⟩⟩⟩
theorem lk_10_210 : LinkOK 10 210 (kM gL_buy) := ⟨ok_gL_buy, Or.inl ⟨ga_c4 84 (by decide +kernel) rfl, ga_c4 85 (by decide +kernel) rfl, by decide +kernel⟩⟩
theorem lk_10_212 : LinkOK 10 212 (kM gX9_buy) := ⟨ok_gX9_buy, Or.inr ⟨ga_c6 75 (by decide +kernel) rfl, by decide +kernel, Or.inl ⟨ga_c6 74 (by decide +kernel) rfl, ga_c6 76 (by decide +kernel) rfl, by decide +kernel⟩⟩⟩
theorem lk_10_213 : LinkOK 10 213 (kM gL_stock) := ⟨ok_gL_stock, Or.inl ⟨ga_c4 104 (by decide +kernel) rfl, ga_c4 105 (by decide +kernel) rfl, by decide +kernel⟩⟩
theorem lk_10_215 : LinkOK 10 215 (kM gX9_stock) := ⟨ok_gX9_stock, Or.inr ⟨ga_c6 83 (by decide +kernel) rfl, by decide +kernel, Or.inl ⟨ga_c6 82 (by decide +kernel) rfl, ga_c6 84 (by decide +kernel) rfl, by decide +kernel⟩⟩⟩
theorem lk_10_216 : LinkOK 10 216 (kM gL_lot) := ⟨ok_gL_lot, Or.inl ⟨ga_c4 112 (by decide +kernel) rfl, ga_c4 113 (by decide +kernel) rfl, by decide +kernel⟩⟩
theorem lk_10_218 : LinkOK 10 218 (kM gX9_lot) := ⟨ok_gX9_lot, Or.inr ⟨ga_c6 91 (by decide +kernel) rfl, by decide +kernel, Or.inl ⟨ga_c6 90 (by decide +kernel) rfl, ga_c6 92 (by decide +kernel) rfl, by decide +kernel⟩⟩⟩
theorem lk_10_219 : LinkOK 10 219 (kM gL_setPrice) := ⟨ok_gL_setPrice, Or.inl ⟨ga_c4 124 (by decide +kernel) rfl, ga_c4 125 (by decide +kernel) rfl, by decide +kernel⟩⟩
theorem lk_10_221 : LinkOK 10 221 (kM gX9_setPrice) := ⟨ok_gX9_setPrice, Or.inr ⟨ga_c6 95 (by decide +kernel) rfl, by decide +kernel, Or.inl ⟨ga_c6 94 (by decide +kernel) rfl, ga_c6 96 (by decide +kernel) rfl, by decide +kernel⟩⟩⟩
theorem lk_10_222 : LinkOK 10 222 (kM gL_dropPrice) := ⟨ok_gL_dropPrice, Or.inl ⟨ga_c4 142 (by decide +kernel) rfl, ga_c4 143 (by decide +kernel) rfl, by decide +kernel⟩⟩
theorem lk_10_224 : LinkOK 10 224 (kM gX9_dropPrice) := ⟨ok_gX9_dropPrice, Or.inr ⟨ga_c6 103 (by decide +kernel) rfl, by decide +kernel, Or.inl ⟨ga_c6 102 (by decide +kernel) rfl, ga_c6 104 (by decide +kernel) rfl, by decide +kernel⟩⟩⟩
theorem lk_10_225 : LinkOK 10 225 (kM gL_price) := ⟨ok_gL_price, Or.inl ⟨ga_c4 154 (by decide +kernel) rfl, ga_c4 155 (by decide +kernel) rfl, by decide +kernel⟩⟩
theorem lk_10_227 : LinkOK 10 227 (kM gX9_price) := ⟨ok_gX9_price, Or.inr ⟨ga_c6 107 (by decide +kernel) rfl, by decide +kernel, Or.inl ⟨ga_c6 106 (by decide +kernel) rfl, ga_c6 108 (by decide +kernel) rfl, by decide +kernel⟩⟩⟩
theorem lk_10_228 : LinkOK 10 228 (kM gL_cost) := ⟨ok_gL_cost, Or.inl ⟨ga_c4 166 (by decide +kernel) rfl, ga_c4 167 (by decide +kernel) rfl, by decide +kernel⟩⟩
theorem lk_10_230 : LinkOK 10 230 (kM gX9_cost) := ⟨ok_gX9_cost, Or.inr ⟨ga_c6 123 (by decide +kernel) rfl, by decide +kernel, Or.inl ⟨ga_c6 122 (by decide +kernel) rfl, ga_c6 124 (by decide +kernel) rfl, by decide +kernel⟩⟩⟩
theorem lk_10_231 : LinkOK 10 231 (kM gL_make) := ⟨ok_gL_make, Or.inl ⟨ga_c4 175 (by decide +kernel) rfl, ga_c4 176 (by decide +kernel) rfl, by decide +kernel⟩⟩
theorem lk_10_233 : LinkOK 10 233 (kM gX9_make) := ⟨ok_gX9_make, Or.inr ⟨ga_c6 127 (by decide +kernel) rfl, by decide +kernel, Or.inl ⟨ga_c6 126 (by decide +kernel) rfl, ga_c6 128 (by decide +kernel) rfl, by decide +kernel⟩⟩⟩
theorem lk_10_234 : LinkOK 10 234 (kM gL_refusal) := ⟨ok_gL_refusal, Or.inl ⟨ga_c4 196 (by decide +kernel) rfl, ga_c4 197 (by decide +kernel) rfl, by decide +kernel⟩⟩
theorem lk_10_237 : LinkOK 10 237 (kM gX9_refusal) := ⟨ok_gX9_refusal, Or.inr ⟨ga_c6 136 (by decide +kernel) rfl, by decide +kernel, Or.inl ⟨ga_c6 135 (by decide +kernel) rfl, ga_c6 137 (by decide +kernel) rfl, by decide +kernel⟩⟩⟩
theorem lk_10_238 : LinkOK 10 238 (kM gL_pass) := ⟨ok_gL_pass, Or.inl ⟨ga_c4 204 (by decide +kernel) rfl, ga_c4 205 (by decide +kernel) rfl, by decide +kernel⟩⟩
theorem lk_10_240 : LinkOK 10 240 (kM gX9_pass) := ⟨ok_gX9_pass, Or.inr ⟨ga_c6 140 (by decide +kernel) rfl, by decide +kernel, Or.inl ⟨ga_c6 139 (by decide +kernel) rfl, ga_c6 141 (by decide +kernel) rfl, by decide +kernel⟩⟩⟩
theorem lk_10_241 : LinkOK 10 241 (kM gL_account) := ⟨ok_gL_account, Or.inl ⟨ga_c4 213 (by decide +kernel) rfl, ga_c4 214 (by decide +kernel) rfl, by decide +kernel⟩⟩
theorem lk_10_243 : LinkOK 10 243 (kM gX9_account) := ⟨ok_gX9_account, Or.inr ⟨ga_c6 144 (by decide +kernel) rfl, by decide +kernel, Or.inl ⟨ga_c6 143 (by decide +kernel) rfl, ga_c6 145 (by decide +kernel) rfl, by decide +kernel⟩⟩⟩
theorem lk_10_244 : LinkOK 10 244 (kM gL_append) := ⟨ok_gL_append, Or.inl ⟨ga_c4 225 (by decide +kernel) rfl, ga_c4 226 (by decide +kernel) rfl, by decide +kernel⟩⟩
theorem lk_10_247 : LinkOK 10 247 (kM gX9_append) := ⟨ok_gX9_append, Or.inr ⟨ga_c6 152 (by decide +kernel) rfl, by decide +kernel, Or.inl ⟨ga_c6 151 (by decide +kernel) rfl, ga_c6 153 (by decide +kernel) rfl, by decide +kernel⟩⟩⟩
theorem lk_10_248 : LinkOK 10 248 (kM gL_readBook) := ⟨ok_gL_readBook, Or.inl ⟨ga_c4 237 (by decide +kernel) rfl, ga_c4 238 (by decide +kernel) rfl, by decide +kernel⟩⟩
theorem lk_10_250 : LinkOK 10 250 (kM gX9_readBook) := ⟨ok_gX9_readBook, Or.inr ⟨ga_c6 156 (by decide +kernel) rfl, by decide +kernel, Or.inl ⟨ga_c6 155 (by decide +kernel) rfl, ga_c6 157 (by decide +kernel) rfl, by decide +kernel⟩⟩⟩
theorem lk_10_251 : LinkOK 10 251 (kM gX8_faultPosition) := ⟨ok_gX8_faultPosition, Or.inr ⟨ga_c2 22 (by decide +kernel) rfl, by decide +kernel, Or.inl ⟨ga_c2 21 (by decide +kernel) rfl, ga_c2 23 (by decide +kernel) rfl, by decide +kernel⟩⟩⟩
theorem lk_10_254 : LinkOK 10 254 (kM gX9_faultPosition) := ⟨ok_gX9_faultPosition, Or.inr ⟨ga_c6 172 (by decide +kernel) rfl, by decide +kernel, Or.inl ⟨ga_c6 171 (by decide +kernel) rfl, ga_c6 173 (by decide +kernel) rfl, by decide +kernel⟩⟩⟩
theorem lk_10_255 : LinkOK 10 255 (kM gL_undo) := ⟨ok_gL_undo, Or.inl ⟨ga_c5 29 (by decide +kernel) rfl, ga_c5 30 (by decide +kernel) rfl, by decide +kernel⟩⟩
theorem lk_10_257 : LinkOK 10 257 (kM gX9_undo) := ⟨ok_gX9_undo, Or.inr ⟨ga_c6 176 (by decide +kernel) rfl, by decide +kernel, Or.inl ⟨ga_c6 175 (by decide +kernel) rfl, ga_c6 177 (by decide +kernel) rfl, by decide +kernel⟩⟩⟩
theorem lk_10_258 : LinkOK 10 258 (kM gX8_save) := ⟨ok_gX8_save, Or.inr ⟨ga_c2 26 (by decide +kernel) rfl, by decide +kernel, Or.inl ⟨ga_c2 25 (by decide +kernel) rfl, ga_c2 27 (by decide +kernel) rfl, by decide +kernel⟩⟩⟩
theorem lk_10_261 : LinkOK 10 261 (kM gX9_save) := ⟨ok_gX9_save, Or.inr ⟨ga_c6 180 (by decide +kernel) rfl, by decide +kernel, Or.inl ⟨ga_c6 179 (by decide +kernel) rfl, ga_c6 181 (by decide +kernel) rfl, by decide +kernel⟩⟩⟩
theorem lk_10_262 : LinkOK 10 262 (kM gL_restore) := ⟨ok_gL_restore, Or.inl ⟨ga_c5 41 (by decide +kernel) rfl, ga_c5 42 (by decide +kernel) rfl, by decide +kernel⟩⟩
theorem lk_10_265 : LinkOK 10 265 (kM gX9_restore) := ⟨ok_gX9_restore, Or.inr ⟨ga_c6 184 (by decide +kernel) rfl, by decide +kernel, Or.inl ⟨ga_c6 183 (by decide +kernel) rfl, ga_c6 185 (by decide +kernel) rfl, by decide +kernel⟩⟩⟩
theorem bkT_10_ok : ∀ q ∈ bkT_10, LinkOK 10 q.1 q.2 := by
  unfold bkT_10
  exact List.forall_mem_cons.mpr ⟨lk_10_7, List.forall_mem_cons.mpr ⟨lk_10_8, List.forall_mem_cons.mpr ⟨lk_10_13, List.forall_mem_cons.mpr ⟨lk_10_15, List.forall_mem_cons.mpr ⟨lk_10_17, List.forall_mem_cons.mpr ⟨lk_10_20, List.forall_mem_cons.mpr ⟨lk_10_22, List.forall_mem_cons.mpr ⟨lk_10_26, List.forall_mem_cons.mpr ⟨lk_10_29, List.forall_mem_cons.mpr ⟨lk_10_33, List.forall_mem_cons.mpr ⟨lk_10_37, List.forall_mem_cons.mpr ⟨lk_10_40, List.forall_mem_cons.mpr ⟨lk_10_44, List.forall_mem_cons.mpr ⟨lk_10_47, List.forall_mem_cons.mpr ⟨lk_10_50, List.forall_mem_cons.mpr ⟨lk_10_52, List.forall_mem_cons.mpr ⟨lk_10_55, List.forall_mem_cons.mpr ⟨lk_10_57, List.forall_mem_cons.mpr ⟨lk_10_61, List.forall_mem_cons.mpr ⟨lk_10_63, List.forall_mem_cons.mpr ⟨lk_10_66, List.forall_mem_cons.mpr ⟨lk_10_69, List.forall_mem_cons.mpr ⟨lk_10_72, List.forall_mem_cons.mpr ⟨lk_10_75, List.forall_mem_cons.mpr ⟨lk_10_78, List.forall_mem_cons.mpr ⟨lk_10_81, List.forall_mem_cons.mpr ⟨lk_10_84, List.forall_mem_cons.mpr ⟨lk_10_87, List.forall_mem_cons.mpr ⟨lk_10_90, List.forall_mem_cons.mpr ⟨lk_10_93, List.forall_mem_cons.mpr ⟨lk_10_96, List.forall_mem_cons.mpr ⟨lk_10_99, List.forall_mem_cons.mpr ⟨lk_10_102, List.forall_mem_cons.mpr ⟨lk_10_105, List.forall_mem_cons.mpr ⟨lk_10_108, List.forall_mem_cons.mpr ⟨lk_10_111, List.forall_mem_cons.mpr ⟨lk_10_115, List.forall_mem_cons.mpr ⟨lk_10_118, List.forall_mem_cons.mpr ⟨lk_10_122, List.forall_mem_cons.mpr ⟨lk_10_126, List.forall_mem_cons.mpr ⟨lk_10_129, List.forall_mem_cons.mpr ⟨lk_10_132, List.forall_mem_cons.mpr ⟨lk_10_135, List.forall_mem_cons.mpr ⟨lk_10_136, List.forall_mem_cons.mpr ⟨lk_10_138, List.forall_mem_cons.mpr ⟨lk_10_139, List.forall_mem_cons.mpr ⟨lk_10_144, List.forall_mem_cons.mpr ⟨lk_10_145, List.forall_mem_cons.mpr ⟨lk_10_148, List.forall_mem_cons.mpr ⟨lk_10_150, List.forall_mem_cons.mpr ⟨lk_10_151, List.forall_mem_cons.mpr ⟨lk_10_154, List.forall_mem_cons.mpr ⟨lk_10_155, List.forall_mem_cons.mpr ⟨lk_10_157, List.forall_mem_cons.mpr ⟨lk_10_158, List.forall_mem_cons.mpr ⟨lk_10_161, List.forall_mem_cons.mpr ⟨lk_10_162, List.forall_mem_cons.mpr ⟨lk_10_165, List.forall_mem_cons.mpr ⟨lk_10_166, List.forall_mem_cons.mpr ⟨lk_10_168, List.forall_mem_cons.mpr ⟨lk_10_169, List.forall_mem_cons.mpr ⟨lk_10_172, List.forall_mem_cons.mpr ⟨lk_10_173, List.forall_mem_cons.mpr ⟨lk_10_175, List.forall_mem_cons.mpr ⟨lk_10_176, List.forall_mem_cons.mpr ⟨lk_10_178, List.forall_mem_cons.mpr ⟨lk_10_179, List.forall_mem_cons.mpr ⟨lk_10_181, List.forall_mem_cons.mpr ⟨lk_10_182, List.forall_mem_cons.mpr ⟨lk_10_185, List.forall_mem_cons.mpr ⟨lk_10_186, List.forall_mem_cons.mpr ⟨lk_10_188, List.forall_mem_cons.mpr ⟨lk_10_189, List.forall_mem_cons.mpr ⟨lk_10_191, List.forall_mem_cons.mpr ⟨lk_10_192, List.forall_mem_cons.mpr ⟨lk_10_194, List.forall_mem_cons.mpr ⟨lk_10_195, List.forall_mem_cons.mpr ⟨lk_10_197, List.forall_mem_cons.mpr ⟨lk_10_198, List.forall_mem_cons.mpr ⟨lk_10_200, List.forall_mem_cons.mpr ⟨lk_10_201, List.forall_mem_cons.mpr ⟨lk_10_203, List.forall_mem_cons.mpr ⟨lk_10_204, List.forall_mem_cons.mpr ⟨lk_10_206, List.forall_mem_cons.mpr ⟨lk_10_207, List.forall_mem_cons.mpr ⟨lk_10_209, List.forall_mem_cons.mpr ⟨lk_10_210, List.forall_mem_cons.mpr ⟨lk_10_212, List.forall_mem_cons.mpr ⟨lk_10_213, List.forall_mem_cons.mpr ⟨lk_10_215, List.forall_mem_cons.mpr ⟨lk_10_216, List.forall_mem_cons.mpr ⟨lk_10_218, List.forall_mem_cons.mpr ⟨lk_10_219, List.forall_mem_cons.mpr ⟨lk_10_221, List.forall_mem_cons.mpr ⟨lk_10_222, List.forall_mem_cons.mpr ⟨lk_10_224, List.forall_mem_cons.mpr ⟨lk_10_225, List.forall_mem_cons.mpr ⟨lk_10_227, List.forall_mem_cons.mpr ⟨lk_10_228, List.forall_mem_cons.mpr ⟨lk_10_230, List.forall_mem_cons.mpr ⟨lk_10_231, List.forall_mem_cons.mpr ⟨lk_10_233, List.forall_mem_cons.mpr ⟨lk_10_234, List.forall_mem_cons.mpr ⟨lk_10_237, List.forall_mem_cons.mpr ⟨lk_10_238, List.forall_mem_cons.mpr ⟨lk_10_240, List.forall_mem_cons.mpr ⟨lk_10_241, List.forall_mem_cons.mpr ⟨lk_10_243, List.forall_mem_cons.mpr ⟨lk_10_244, List.forall_mem_cons.mpr ⟨lk_10_247, List.forall_mem_cons.mpr ⟨lk_10_248, List.forall_mem_cons.mpr ⟨lk_10_250, List.forall_mem_cons.mpr ⟨lk_10_251, List.forall_mem_cons.mpr ⟨lk_10_254, List.forall_mem_cons.mpr ⟨lk_10_255, List.forall_mem_cons.mpr ⟨lk_10_257, List.forall_mem_cons.mpr ⟨lk_10_258, List.forall_mem_cons.mpr ⟨lk_10_261, List.forall_mem_cons.mpr ⟨lk_10_262, List.forall_mem_cons.mpr ⟨lk_10_265, (fun _ h => nomatch h)⟩⟩⟩⟩⟩⟩⟩⟩⟩⟩⟩⟩⟩⟩⟩⟩⟩⟩⟩⟩⟩⟩⟩⟩⟩⟩⟩⟩⟩⟩⟩⟩⟩⟩⟩⟩⟩⟩⟩⟩⟩⟩⟩⟩⟩⟩⟩⟩⟩⟩⟩⟩⟩⟩⟩⟩⟩⟩⟩⟩⟩⟩⟩⟩⟩⟩⟩⟩⟩⟩⟩⟩⟩⟩⟩⟩⟩⟩⟩⟩⟩⟩⟩⟩⟩⟩⟩⟩⟩⟩⟩⟩⟩⟩⟩⟩⟩⟩⟩⟩⟩⟩⟩⟩⟩⟩⟩⟩⟩⟩⟩⟩⟩⟩⟩⟩⟩⟩⟩⟩
def bkT_11 : List (Nat × bkL) := [(265, kV (.int 1431655765)), (266, kV (.int 858993459)), (267, kV (.int 252645135))]
theorem lk_11_265 : LinkOK 11 265 (kV (.int 1431655765)) := ga_c3 25 (by decide +kernel) rfl
theorem lk_11_266 : LinkOK 11 266 (kV (.int 858993459)) := ga_c3 26 (by decide +kernel) rfl
theorem lk_11_267 : LinkOK 11 267 (kV (.int 252645135)) := ga_c3 27 (by decide +kernel) rfl
theorem bkT_11_ok : ∀ q ∈ bkT_11, LinkOK 11 q.1 q.2 := by
  unfold bkT_11
  exact List.forall_mem_cons.mpr ⟨lk_11_265, List.forall_mem_cons.mpr ⟨lk_11_266, List.forall_mem_cons.mpr ⟨lk_11_267, (fun _ h => nomatch h)⟩⟩⟩
def bkTs (o : Nat) : List (Nat × bkL) := match o with
  | 0 => bkT_0 | 1 => bkT_1 | 2 => bkT_2 | 3 => bkT_3 | 4 => bkT_4 | 5 => bkT_5 | 6 => bkT_6 | 7 => bkT_7 | 8 => bkT_8 | 9 => bkT_9 | 10 => bkT_10 | _ => bkT_11
def bkLk (o idx : Nat) : Option bkL := ((bkTs o).find? (fun q => q.1 == idx)).map (fun q => q.2)
theorem bkLk_ok {o idx : Nat} {e : bkL} (ho : o < 12) (h : bkLk o idx = some e) : LinkOK o idx e := by
  unfold bkLk at h
  cases hf : (bkTs o).find? (fun q => q.1 == idx) with
  | none => rw [hf] at h; cases h
  | some q =>
    rw [hf] at h
    have h2 : q.2 = e := Option.some.inj h
    have h1 : (q.1 == idx) = true := by
      have h9 := List.find?_some hf
      exact h9
    have h3 : q.1 = idx := by simpa using h1
    have hm := List.mem_of_find?_eq_some hf
    subst h2; subst h3
    match o, ho, hm with
    | 0, _, hm => exact bkT_0_ok q hm
    | 1, _, hm => exact bkT_1_ok q hm
    | 2, _, hm => exact bkT_2_ok q hm
    | 3, _, hm => exact bkT_3_ok q hm
    | 4, _, hm => exact bkT_4_ok q hm
    | 5, _, hm => exact bkT_5_ok q hm
    | 6, _, hm => exact bkT_6_ok q hm
    | 7, _, hm => exact bkT_7_ok q hm
    | 8, _, hm => exact bkT_8_ok q hm
    | 9, _, hm => exact bkT_9_ok q hm
    | 10, _, hm => exact bkT_10_ok q hm
    | 11, _, hm => exact bkT_11_ok q hm
/-- the text constants of throws: class, entry, text -/
def bkStr : List (Nat × Nat × String) := [(8, 354, "a number of the block is out of range"), (8, 356, "no more books are kept"), (8, 374, "no such book"), (8, 69, "no such number of a block, or its value is out of range"), (8, 89, "no such number of a block"), (8, 377, "no such setting"), (8, 105, "the value of the setting is out of range"), (8, 379, "no such piece"), (8, 383, "no material that comes in sheets"), (8, 138, "a number of the sheets is out of range"), (8, 147, "no such number of sheets"), (8, 151, "cloth is not cut from sheets"), (8, 381, "no such material"), (8, 165, "no units of this material are enough"), (8, 173, "no board can be cut from a sheet"), (8, 184, "no such station"), (8, 361, "a book of the set does not exist"), (8, 366, "a cloth of the set is too broad"), (8, 208, "the book is not in the set"), (8, 213, "no cloth is cut for no books"), (8, 222, "a number of the lot is out of range"), (8, 235, "no more lots are kept"), (8, 254, "no such lot"), (8, 262, "the day or the price is out of range"), (8, 273, "no more prices are kept"), (8, 276, "no price from this day on"), (8, 285, "no list price on this day"), (8, 287, "the book cannot be cut"), (8, 289, "a material has no list price on this day"), (8, 291, "making the book is refused"), (8, 296, "no call of make was refused"), (8, 298, "the number of days is out of range"), (8, 303, "the last day would be passed"), (8, 305, "no such account"), (8, 323, "the text buffer is full"), (8, 332, "the text has a fault"), (8, 341, "no change is kept"), (8, 349, "there is no snapshot")]
theorem ga_arrI : (.arrayClass .int : Cond) ∈ ga := ga_c1 61 (by decide +kernel) rfl
theorem ga_arrL : (.arrayClass .long : Cond) ∈ ga := ga_c1 134 (by decide +kernel) rfl
theorem ga_arrC : (.arrayClass .char : Cond) ∈ ga := ga_c1 235 (by decide +kernel) rfl
theorem ga_arrD : (.arrayClass .double : Cond) ∈ ga := ga_c6 187 (by decide +kernel) rfl
theorem ga_arrP : (.arrayOver (.object "BindingPlanner$Plan") : Cond) ∈ bkNw := nw_c1 142 (by decide +kernel) rfl
theorem ga_maxS : (.static Lib.Math.max.name : Cond) ∈ ga := ga_c3 82 (by decide +kernel) rfl
theorem ga_minS : (.static Lib.Math.min.name : Cond) ∈ ga := ga_c2 157 (by decide +kernel) rfl
theorem ga_mathI : (.initialized "java/lang/Math" : Cond) ∈ ga := ga_c1 16 (by decide +kernel) rfl
theorem ga_acN : (.native arraycopyName : Cond) ∈ ga := ga_c1 87 (by decide +kernel) rfl
theorem ga_acS : (.static arraycopyName : Cond) ∈ ga := ga_c1 86 (by decide +kernel) rfl
theorem ga_sysI : (.initialized "java/lang/System" : Cond) ∈ ga := ga_c1 5 (by decide +kernel) rfl
theorem ga_objI : (.instanceMethod Lib.objectInit : Cond) ∈ ga := ga_c1 31 (by decide +kernel) rfl
set_option maxRecDepth 100000 in
theorem ga_maxC : (.code Lib.Math.max.name Lib.Math.max.code 2 (some .int) : Cond) ∈ ga := ga_c3 83 (by decide +kernel) (by decide +kernel)
set_option maxRecDepth 100000 in
theorem ga_minC : (.code Lib.Math.min.name Lib.Math.min.code 2 (some .int) : Cond) ∈ ga := ga_c2 158 (by decide +kernel) (by decide +kernel)
set_option maxRecDepth 100000 in
theorem ga_objC : (.code Lib.objectInit ⟨#[0xb1]⟩ 1 none : Cond) ∈ ga := ga_c1 32 (by decide +kernel) (by decide +kernel)
/-- pairs of exceptions of which the first is not caught as the second -/
def bkNcs : List (Nat × Nat) := [(0, 1), (0, 2), (0, 3), (0, 4), (0, 5), (1, 0), (1, 2), (1, 3), (1, 4), (1, 5), (2, 0), (2, 1), (2, 3), (2, 4), (2, 5), (3, 0), (3, 1), (3, 2), (3, 4), (3, 5), (4, 0), (4, 1), (4, 2), (4, 3), (4, 5), (5, 0), (5, 1), (5, 2), (5, 3), (5, 4)]
