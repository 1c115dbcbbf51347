/-! 06: contracts, calls, and the instructions of the heap -/
def bkRm (M : bkM) : Room := { frames := 8 + mV M, cells := mC M, slots := mS M, locals := 400 + 40 * mV M }
def bkWs (M : bkM) : List Cond := bkWc M :: ga
def bkQc (G : bkG) (Post : bkPo) : Array Value → State → Outcome → State → Prop := fun _ st o t => (∃ (v : Option Value) (h : bkHS) (z : Option Nat), o = .returned v ∧ Post (.inl v) h z ∧ bkH G h z t.heap) ∧ va_F (bkA G) st t
def bkXc (G : bkG) (Post : bkPo) : String → State → State → Prop := fun E st t => (∃ (e : Nat) (h : bkHS), E = bkEx e ∧ e < 6 ∧ Post (.inr e) h none ∧ bkH G h none t.heap) ∧ va_F (bkA G) st t
/-- THE CONTRACT of a method at given arguments and a given world -/
def CM (G : bkG) (M : bkM) (av : List Value) (h : bkHS) (z : Option Nat) (Post : bkPo) : Prop :=
  vx_Met (gl G) (mY M) (bkWs M) (bkRm M) (va_Pc av (bkS G h z)) (bkQc G Post) (bkXc G Post) (mC M) (mS M) (bkA G)
theorem CM.mono {G : bkG} {M : bkM} {av : List Value} {h : bkHS} {z : Option Nat} {Post Post' : bkPo} (hm : CM G M av h z Post) (hp : ∀ r h z, Post r h z → Post' r h z) : CM G M av h z Post' := by
  intro p e ha hc hk s m args below hf happ hP hK
  obtain ⟨n, o, h1, h2, h3, h4⟩ := hm p e ha hc hk s m args below hf happ hP hK
  refine ⟨n, o, h1, h2, h3, ?_⟩
  rcases h4 with ⟨⟨⟨v, h5, z5, q1, q2, q3⟩, q4⟩, q5⟩ | ⟨q, q1, E, ce, L, ⟨⟨e5, h5, x1, x0, x2, x3⟩, x4⟩, q2⟩
  · exact Or.inl ⟨⟨⟨v, h5, z5, q1, hp _ _ _ q2, q3⟩, q4⟩, q5⟩
  · exact Or.inr ⟨q, q1, E, ce, L, ⟨⟨e5, h5, x1, x0, hp _ _ _ x2, x3⟩, x4⟩, q2⟩
theorem bkS.blind {G : bkG} {av : List Value} {h : bkHS} {z : Option Nat} : FrameBlind (va_Pc av (bkS G h z)) := by
  intro a U g mk ⟨h1, h2, h3, h4⟩
  exact ⟨h1, h2, bkFx.warm (U := U.calling g mk a) (State.WarmedH.refl U) h2 (fun _ _ _ => rfl) h3, h4⟩
theorem MethOK.lift {M : bkM} (h : MethOK M) : ∀ w ∈ bkWs M, w ∈ ga := fun w hw => by
  rcases List.mem_cons.mp hw with rfl | hw
  · exact h.1
  · exact hw
theorem ga_good {w : Cond} (h : w ∈ ga) : (w.onTables && w.keeps) = true ∨ ∃ ty, w = .arrayClass ty := good_of_word (List.mem_filter.mp h).2
section Snd
variable {p : Program} {e : Env} {R : Room} {s : State} {m : MethodId} {args : Array Value} {below : List Frame} {meth : Method} {c : Code} {Q : State → Prop} {G : bkG} {M : bkM}
theorem bk_hS {H : Heap} {locs : List Loc} (hB : bkB p R s m args meth c G M) (hS : va_S (bkA G) s.heap H locs) {h : bkHS} {z : Option Nat} (hH : bkH G h z H) (U : State) (hU : U.heap = H) (hW : s.WarmedH U.vm) : bkS G h z U := by
  obtain ⟨-, -, -, -, -, hBs, hF, -⟩ := hB
  refine ⟨by rw [hU]; exact Nat.le_trans hBs hS.1, bkFx.warm hW hBs (fun a h1 h2 => by rw [hU]; exact hS.2.1 a h1 h2) hF, by rw [hU]; exact hH⟩
theorem bk_run {H : Heap} {locs : List Loc} {k n mc ms pc : Nat} {ls : Array Slot} {st rest : List Value} {a : Array Value} {Po : bkPo} (hB : bkB p R s m args meth c G M) (hS : va_S (bkA G) s.heap H locs)
    (hr : vx_Run p (gl G) e R s m args below meth c H locs k n mc ms (F0 m pc ls st) rest (bkQc G Po a) (bkXc G Po) (bkA G))
    (k1 : ∀ (v : Option Value) (h : bkHS) (z : Option Nat) (H1 : Heap) (locs1 : List Loc), Po (.inl v) h z → bkH G h z H1 → va_S (bkA G) s.heap H1 locs1 → W p (gl G) e R s m args below meth c H1 locs1 (k + mc) (n + ms) Q (F0 m (pc + 3) ls (v.toList ++ rest)))
    (k2 : ∀ (x : Nat) (h : bkHS) (H1 : Heap) (locs1 : List Loc) (q : Nat) (ce : Cell), Po (.inr x) h none → x < 6 → bkH G h none H1 → va_S (bkA G) s.heap H1 locs1 → H1[q]? = some ce → ce.vm = .none → s.vm.findClass (bkEx x) = some ce.cls → vx_W p (gl G) e R s m args below meth c H1 locs1 (k + mc) (n + ms) Q (F0 m pc ls rest) q) :
    W p (gl G) e R s m args below meth c H locs k n Q (F0 m pc ls st) := by
  intro T hT X
  have hsz := hB.2.2.2.2.2.1
  rcases hr T hT X with ⟨v, st₀, t, T', L, h0, X', hL, e1, e2, ⟨⟨v9, h9, z9, hv, hp, hb⟩, hF⟩, st⟩ | ⟨q, st₀, t, T', L, E, ce, h0, X', hL, e1, e2, ⟨⟨x9, h9, hE, hx6, hp, hb⟩, hF⟩, hce, hcv, hcl, st⟩
  · cases hv
    obtain ⟨y1, y2, y3⟩ := vx_keep h0 e1 hS (fun _ _ h => h) (fun _ h => h) hL hF
    obtain ⟨t2, a1, b1⟩ := k1 v h9 z9 T'.heap (locs ++ L) hp (by rw [e1]; exact hb) y3 T' rfl X'
    exact ⟨t2, st t2 a1, b1⟩
  · obtain ⟨y1, y2, y3⟩ := vx_keep h0 e1 hS (fun _ _ h => h) (fun _ h => h) hL hF
    subst hE
    obtain ⟨t2, a1, b1⟩ := k2 x9 h9 T'.heap (locs ++ L) q ce hp hx6 (by rw [e1]; exact hb) y3 (by rw [e1]; exact hce) hcv hcl T' rfl X'
    exact ⟨t2, st.trans a1, b1⟩
/-- the three kinds of calls -/
theorem bk_callS (hB : bkB p R s m args meth c G M) {H : Heap} {locs : List Loc} {ls : Array Slot} {idx pc k n : Nat} {st : List Value} {h : bkHS} {z : Option Nat} {M' : bkM} {Po : bkPo} (hd : decode (mB M) pc = .ok (.invokestatic idx, 3)) (hlk : bkLk (mO M) idx = some (kM M')) (hst : bkIsS M' = true)
    (hS : va_S (bkA G) s.heap H locs) (hH : bkH G h z H) (hls : ls.size = mL M) (hlen : mN M' ≤ st.length) (hcat : cats (st.drop (mN M')) ≤ 8) (hv : mV M' < mV M) (hk : k + mC M' ≤ mC M) (hn : n + mS M' ≤ mS M) (hmax : mL M' ≤ 20)
    (hC : CM G M' (st.take (mN M')).reverse h z Po) :
    vx_Run p (gl G) e R s m args below meth c H locs k n (mC M') (mS M') (F0 m pc ls st) (st.drop (mN M')) (bkQc G Po (st.take (mN M')).reverse.toArray) (bkXc G Po) (bkA G) := by
  have hB0 := hB
  obtain ⟨hx, hb, hml, hown, hts, hBs, hF, ho, hR, hlks, hct⟩ := hB
  have hL := bkLk_ok ho hlk
  obtain ⟨hM, hL⟩ := hL
  have hst := of_decide_eq_true hst
  have hnn : ∀ sig, parseMethodDescriptor (mY M').desc = some sig → mN M' = sig.parameters.length := fun sig hs => by
    rw [hs] at hst
    exact (Option.some.inj hst).symm
  have hLs : Cond.methodLink (bkRN (mO M)) idx (mY M') ∈ ga ∧ Cond.static (mY M') ∈ ga := by
    rcases hL with hL | ⟨-, hL, -⟩
    · exact ⟨hL.1, hL.2.1⟩
    · exfalso
      cases hp : parseMethodDescriptor (mY M').desc with
      | none => rw [hp] at hst; cases hst
      | some d =>
        rw [hp] at hst hL
        have h1 : d.parameters.length = mN M' := Option.some.inj hst
        have h2 : d.parameters.length + 1 = mN M' := Option.some.inj hL
        omega
  have hws : ∀ w ∈ bkWs M', ∀ (a' : Array Value) (U : State), s.WarmedH U.vm → w.before a' U = true := pay_in hts (fun w hw => ⟨hM.lift w hw, ga_good (hM.lift w hw)⟩)
  have hfr : (bkRm M').frames + 1 ≤ R.frames := by show 8 + mV M' + 1 ≤ _; omega
  have hlo : 8 + (mL M' + 11) + (bkRm M').locals ≤ R.locals := by show 8 + (mL M' + 11) + (400 + 40 * mV M') ≤ _; omega
  have hpre : PreS s H (va_Pc (st.take (mN M')).reverse (bkS G h z)) (st.take (mN M')).reverse := ⟨bkS.blind, fun U hU hW => ⟨rfl, bk_hS hB0 hS hH U hU hW⟩⟩
  have hlt : (st.take (mN M')).reverse.length = mN M' := by simp; omega
  have hsp : (F0 m pc ls st).stack = (st.take (mN M')).reverse.reverse ++ st.drop (mN M') := by rw [List.reverse_reverse, List.take_append_drop]
  have hcat2 : 2 * (F0 m pc ls st).monitorRoom + ((st.drop (mN M')).map fun v => v.category).sum ≤ 8 := lv_room hcat
  cases hh : mH M' with
  | nil =>
    have hw : bkWc M' = .code (mY M') (mB M') (mL M') (mR M') := by unfold bkWc; rw [hh]
    have hcb : CallB R s args (bkRN (mO M)) idx (mY M') (mB M') (mL M') (mR M') (bkWs M') (bkRm M') (mC M') (mS M') (mN M') :=
      ⟨rfl, rfl, hfr, hlo, hws, by rw [← hw]; exact List.mem_cons_self, by rw [← hw]; exact hts _ hM.1, hts _ hM.2.1, hM.2.2.2.1, hnn, hts _ hLs.1⟩
    exact vx_runS (As := (st.take (mN M')).reverse) ⟨hx, hb, hml, hown, hts⟩ hC ⟨hcb, hts _ hLs.2⟩ hpre rfl hlt hls hsp hcat2 hd ⟨by omega, by omega⟩
  | cons q qs =>
    have hw : bkWc M' = .codeWith (mY M') (mB M') (mL M') (mR M') (q :: qs) := by unfold bkWc; rw [hh]
    have hcb : vx_CSW R s args (bkRN (mO M)) idx (mY M') (mB M') (mL M') (mR M') (q :: qs) (bkWs M') (bkRm M') (mC M') (mS M') (mN M') :=
      ⟨⟨rfl, rfl, hfr, hlo, hws, by rw [← hw]; exact List.mem_cons_self⟩, by rw [← hw]; exact hts _ hM.1, hts _ hM.2.1, hM.2.2.2.1, hnn, hts _ hLs.1, hts _ hLs.2⟩
    exact vx_runSX (As := (st.take (mN M')).reverse) ⟨hx, hb, hml, hown, hts⟩ hC hcb hpre rfl hlt hls hsp hcat2 hd ⟨by omega, by omega⟩
theorem bkRcv_spec {st : List Value} {h : bkHS} {M' : bkM} (hr : bkRcv st h M') : ∃ (a ci : Nat) (fs : List Value) (T : u_T) (N : Nat), st[mN M' - 1]? = some (.ref a) ∧ h a = some (.inl (ci, fs)) ∧ bkCl[ci]? = some ((mY M').cls, T, N) := by
  unfold bkRcv at hr
  split at hr
  · rename_i a h1
    split at hr
    · rename_i ci fs h2
      split at hr
      · rename_i C T N h3
        exact ⟨a, ci, fs, T, N, h1, h2, by rw [h3, hr]⟩
      · exact hr.elim
    · exact hr.elim
  · exact hr.elim
theorem bk_split {st : List Value} {n a : Nat} (hn : 1 ≤ n) (h : st[n - 1]? = some (.ref a)) : st = (st.take (n - 1)) ++ .ref a :: st.drop n ∧ (st.take n).reverse = .ref a :: (st.take (n - 1)).reverse := by
  obtain ⟨j, rfl⟩ : ∃ j, n = j + 1 := ⟨n - 1, by omega⟩
  simp only [Nat.add_sub_cancel] at h ⊢
  have hl := (List.getElem?_eq_some_iff.mp h)
  constructor
  · have h1 := (List.take_append_drop j st).symm
    rw [List.drop_eq_getElem_cons hl.1, hl.2] at h1
    exact h1
  · rw [List.take_succ, h]
    simp
theorem bk_callV (hB : bkB p R s m args meth c G M) {H : Heap} {locs : List Loc} {ls : Array Slot} {idx pc k n : Nat} {st : List Value} {h : bkHS} {z z' : Option Nat} {M' : bkM} {Po : bkPo} (hd : decode (mB M) pc = .ok (.invokevirtual idx, 3)) (hlk : bkLk (mO M) idx = some (kM M')) (hst : bkIsS M' = false) (hct : bkCt M' = false) (hh : mH M' = []) (hrc : bkRcv st h M')
    (hS : va_S (bkA G) s.heap H locs) (hH : bkH G h z H) (hH' : bkH G h z' H) (hls : ls.size = mL M) (hlen : mN M' ≤ st.length) (hcat : cats (st.drop (mN M')) ≤ 8) (hv : mV M' < mV M) (hk : k + mC M' ≤ mC M) (hn : n + mS M' ≤ mS M) (hmax : mL M' ≤ 20)
    (hC : CM G M' (st.take (mN M')).reverse h z Po) :
    vx_Run p (gl G) e R s m args below meth c H locs k n (mC M') (mS M') (F0 m pc ls st) (st.drop (mN M')) (bkQc G Po (st.take (mN M')).reverse.toArray) (bkXc G Po) (bkA G) := by
  have hB0 := hB
  obtain ⟨hx, hb, hml, hown, hts, hBs, hF, ho, hR, hlks, -⟩ := hB
  have hL := bkLk_ok ho hlk
  obtain ⟨hM, hL⟩ := hL
  have hst := of_decide_eq_false hst
  rcases hL with ⟨-, -, hL⟩ | ⟨hin, hpd, hL⟩
  · exact absurd hL hst
  have hn1 : 1 ≤ mN M' := by
    cases hp : parseMethodDescriptor (mY M').desc with
    | none => rw [hp] at hpd; cases hpd
    | some d => rw [hp] at hpd; have h2 : d.parameters.length + 1 = mN M' := Option.some.inj hpd; omega
  have hnn : ∀ sig, parseMethodDescriptor (mY M').desc = some sig → mN M' - 1 = sig.parameters.length := fun sig hs => by
    rw [hs] at hpd
    have h2 : sig.parameters.length + 1 = mN M' := Option.some.inj hpd
    omega
  have hct' : ¬ (mY M').name = "<init>" := fun h9 => by
    unfold bkCt at hct
    rw [h9] at hct
    exact absurd hct (by decide)
  have hLs : Cond.methodLink (bkRN (mO M)) idx (mY M') ∈ ga ∧ Cond.selects (mY M').cls (mY M') (mY M') ∈ ga := by
    rcases hL with ⟨h1, h2, -⟩ | ⟨h1, -⟩
    · exact ⟨h1, h2⟩
    · exact absurd h1 hct'
  have hws : ∀ w ∈ bkWs M', ∀ (a' : Array Value) (U : State), s.WarmedH U.vm → w.before a' U = true := pay_in hts (fun w hw => ⟨hM.lift w hw, ga_good (hM.lift w hw)⟩)
  have hfr : (bkRm M').frames + 1 ≤ R.frames := by show 8 + mV M' + 1 ≤ _; omega
  have hlo : 8 + (mL M' + 11) + (bkRm M').locals ≤ R.locals := by show 8 + (mL M' + 11) + (400 + 40 * mV M') ≤ _; omega
  obtain ⟨a, ci, fs, T, N, h1, h2, h3⟩ := bkRcv_spec hrc
  obtain ⟨hsp, hrev⟩ := bk_split hn1 h1
  have hrv := va_recv hF.1 (hH.get h2) h3 (q0 := 0) rfl
  have hpre : PreV s H (mY M').cls a (va_Pc (st.take (mN M')).reverse (bkS G h z)) (st.take (mN M' - 1)).reverse := ⟨bkS.blind, hrv, fun U hU hW => ⟨by rw [hrev], bk_hS hB0 hS hH U hU hW⟩⟩
  have hcat2 : 2 * (F0 m pc ls st).monitorRoom + ((st.drop (mN M')).map fun v => v.category).sum ≤ 8 := lv_room hcat
  have hw : bkWc M' = .code (mY M') (mB M') (mL M') (mR M') := by unfold bkWc; rw [hh]
  have hcb : CallB R s args (bkRN (mO M)) idx (mY M') (mB M') (mL M') (mR M') (bkWs M') (bkRm M') (mC M') (mS M') (mN M' - 1) :=
    ⟨rfl, rfl, hfr, hlo, hws, by rw [← hw]; exact List.mem_cons_self, by rw [← hw]; exact hts _ hM.1, hts _ hM.2.1, hM.2.2.2.1, hnn, hts _ hLs.1⟩
  have hr := vx_runV (e := e) (below := below) (meth := meth) (locs := locs) (cells := k) (slots := n) (As := (st.take (mN M' - 1)).reverse) (rest := st.drop (mN M')) (g := F0 m pc ls st) ⟨hx, hb, hml, hown, hts⟩ hC ⟨hcb, hts _ hin, hts _ hLs.2⟩ hpre rfl (by simp; omega) hls (by rw [List.reverse_reverse]; exact hsp) hcat2 hd ⟨by omega, by omega⟩
  rw [hrev]
  exact hr
theorem bk_callI (hB : bkB p R s m args meth c G M) {H : Heap} {locs : List Loc} {ls : Array Slot} {idx pc k n : Nat} {st : List Value} {h : bkHS} {z : Option Nat} {M' : bkM} {Po : bkPo} (hd : decode (mB M) pc = .ok (.invokespecial idx, 3)) (hlk : bkLk (mO M) idx = some (kM M')) (hst : bkIsS M' = false) (hct : bkCt M' = true) (hrc : bkRcv st h M')
    (hS : va_S (bkA G) s.heap H locs) (hH : bkH G h z H) (hls : ls.size = mL M) (hlen : mN M' ≤ st.length) (hcat : cats (st.drop (mN M')) ≤ 8) (hv : mV M' < mV M) (hk : k + mC M' ≤ mC M) (hn : n + mS M' ≤ mS M) (hmax : mL M' ≤ 20)
    (hC : CM G M' (st.take (mN M')).reverse h z Po) :
    vx_Run p (gl G) e R s m args below meth c H locs k n (mC M') (mS M') (F0 m pc ls st) (st.drop (mN M')) (bkQc G Po (st.take (mN M')).reverse.toArray) (bkXc G Po) (bkA G) := by
  have hB0 := hB
  obtain ⟨hx, hb, hml, hown, hts, hBs, hF, ho, hR, hlks, -⟩ := hB
  have hL := bkLk_ok ho hlk
  obtain ⟨hM, hL⟩ := hL
  have hst := of_decide_eq_false hst
  rcases hL with ⟨-, -, hL⟩ | ⟨hin, hpd, hL⟩
  · exact absurd hL hst
  have hn1 : 1 ≤ mN M' := by
    cases hp : parseMethodDescriptor (mY M').desc with
    | none => rw [hp] at hpd; cases hpd
    | some d => rw [hp] at hpd; have h2 : d.parameters.length + 1 = mN M' := Option.some.inj hpd; omega
  have hnn : ∀ sig, parseMethodDescriptor (mY M').desc = some sig → mN M' - 1 = sig.parameters.length := fun sig hs => by
    rw [hs] at hpd
    have h2 : sig.parameters.length + 1 = mN M' := Option.some.inj hpd
    omega
  have hct' : (mY M').name = "<init>" := by
    unfold bkCt at hct
    exact eq_of_beq hct
  have hws : ∀ w ∈ bkWs M', ∀ (a' : Array Value) (U : State), s.WarmedH U.vm → w.before a' U = true := pay_in hts (fun w hw => ⟨hM.lift w hw, ga_good (hM.lift w hw)⟩)
  have hfr : (bkRm M').frames + 1 ≤ R.frames := by show 8 + mV M' + 1 ≤ _; omega
  have hlo : 8 + (mL M' + 11) + (bkRm M').locals ≤ R.locals := by show 8 + (mL M' + 11) + (400 + 40 * mV M') ≤ _; omega
  obtain ⟨a, ci, fs, T, N, h1, h2, h3⟩ := bkRcv_spec hrc
  obtain ⟨hsp, hrev⟩ := bk_split hn1 h1
  have hpre : PreS s H (va_Pc (st.take (mN M')).reverse (bkS G h z)) (.ref a :: (st.take (mN M' - 1)).reverse) := ⟨bkS.blind, fun U hU hW => ⟨by rw [hrev], bk_hS hB0 hS hH U hU hW⟩⟩
  have hcat2 : 2 * (F0 m pc ls st).monitorRoom + ((st.drop (mN M')).map fun v => v.category).sum ≤ 8 := lv_room hcat
  rcases hL with ⟨-, -, h9⟩ | ⟨-, hret, hh, hL⟩
  · exact absurd hct' h9
  have hw : bkWc M' = .code (mY M') (mB M') (mL M') none := by unfold bkWc; rw [hh, hret]
  have hr : vx_Run p (gl G) e R s m args below meth c H locs k n (mC M') (mS M') (F0 m pc ls st) (st.drop (mN M')) (bkQc G Po (.ref a :: (st.take (mN M' - 1)).reverse).toArray) (bkXc G Po) (bkA G) := by
    rcases hL with hL | hL
    · have hcb : CallB R s args (bkRN (mO M)) idx (mY M') (mB M') (mL M') none (bkWs M') (bkRm M') (mC M') (mS M') (mN M' - 1) :=
        ⟨rfl, rfl, hfr, hlo, hws, by rw [← hw]; exact List.mem_cons_self, by rw [← hw]; exact hts _ hM.1, hts _ hM.2.1, hM.2.2.2.1, hnn, hts _ hL⟩
      exact vx_runI (As := (st.take (mN M' - 1)).reverse) (rest := st.drop (mN M')) (g := F0 m pc ls st) ⟨hx, hb, hml, hown, hts⟩ hC ⟨hcb, hct', hts _ hin⟩ hpre rfl (by simp; omega) hls (by rw [List.reverse_reverse]; exact hsp) hcat2 hd ⟨by omega, by omega⟩
    · have hnw := hF.2.2.2.2.1 _ hL
      have hcn : va_CN R s args (bkRN (mO M)) idx (mY M') "BindingPlanner" (mB M') (mL M') none (bkWs M') (bkRm M') (mC M') (mS M') (mN M' - 1) :=
        ⟨⟨rfl, rfl, hfr, hlo, hws, by rw [← hw]; exact List.mem_cons_self⟩, by rw [← hw]; exact hts _ hM.1, hts _ hM.2.1, hM.2.2.2.1, hnn, va_Nw.use rfl hnw⟩
      exact vx_runIN (As := (st.take (mN M' - 1)).reverse) (rest := st.drop (mN M')) (g := F0 m pc ls st) ⟨hx, hb, hml, hown, hts⟩ hC ⟨hcn, hct', hts _ hin⟩ hpre rfl (by simp; omega) hls (by rw [List.reverse_reverse]; exact hsp) hcat2 hd ⟨by omega, by omega⟩
  rw [hrev]
  exact hr
end Snd
