theorem ph_ok {ad : Nat → Nat} {ty : FieldType} {v : Value} (h1 : narrow ty v = v) (h2 : fits ty v = true) : narrow ty (ph ad v) = ph ad v ∧ fits ty (ph ad v) = true := by
  cases v with
  | ref a => cases ty <;> first | exact ⟨rfl, h2⟩ | exact ⟨rfl, rfl⟩
  | _ => exact ⟨h1, h2⟩
/-- what holds at the start of a method, and all through it -/
def Env0 (p : Program) (l : Launch) (R : Room) (s : State) (m : MethodId) (args : Array Value) (meth : Method) (c : Code) (D : va_G) (tA : FieldType → ClassId) (A : Nat → Prop) (cc : ByteArray) (nL : Nat) (ad0 : Nat → Nat) (n0 : Nat) (Ts : List Cond) (own : String) (y : MethodName) (scr : Option (Nat × (Nat → Int32))) : Prop :=
  p.tables.exec = Jvm.exec ∧ c.code = cc ∧ c.maxLocals = nL ∧ s.vm.findClass own = some m.cls ∧ (∀ w ∈ Ts, w.before args s = true) ∧ (∀ w ∈ goodTbl, w ∈ Ts) ∧ (∀ q : Nat, s.heap.size ≤ q → A q) ∧ Cxt D tA ad0 s ∧ 7 ≤ n0 ∧ (y.name = "<init>" → meth.name = "<init>") ∧ Sx ad0 A s s.heap ∧ (4 ≤ R.frames ∧ 128 ≤ R.locals) ∧
    (∀ n g, scr = some (n, g) → va_X (ad0 0) n g s s.heap ∧ ad0 0 < s.heap.size ∧ ¬ A (ad0 0))
section STP
variable {p : Program} {l : Launch} {e : Env} {R : Room} {s : State} {m : MethodId} {args : Array Value} {below : List Frame} {meth : Method} {c : Code} {Q : State → Prop}
variable {D : va_G} {tA : FieldType → ClassId} {A : Nat → Prop} {cc : ByteArray} {nL : Nat} {ad0 : Nat → Nat} {n0 : Nat} {Ts : List Cond} {own : String} {y : MethodName} {scr : Option (Nat × (Nat → Int32))}
variable {ad : Nat → Nat} {ls : Array Slot} {H : Heap} {locs : List Loc} {L : Lc} {st st' : List Value} {σ : Hp}
theorem Sim.free (hA : ∀ q : Nat, s.heap.size ≤ q → A q) (h : Sim s D tA A nL ad0 n0 ad ls H locs L st σ) : ∀ q, va_A (wsp ad tA σ) H.size q → A q := by
  intro q hq
  rcases hq with ⟨k, e, hk⟩ | hq
  · exact h.hD.2 k (q, e) hk
  · exact hA q (Nat.le_trans h.hS.1 hq)
theorem Sim.pic (hE : Env0 p l R s m args meth c D tA A cc nL ad0 n0 Ts own y scr) (h : Sim s D tA A nL ad0 n0 ad ls H locs L st σ) {U : State} (hU : U.heap = H) (hW : s.WarmedH U.vm) : PicS D tA ad H.size σ U := by
  obtain ⟨-, -, -, -, -, -, hA, hC, hn, -, hSx, -, -⟩ := hE
  have ha : ∀ k, k < 7 → ad k = ad0 k := fun k hk => h.1 k (by omega)
  refine ⟨by rw [hU], (hC.ad ha).moved hW, by rw [hU]; exact h.hP, h.hD.weaken (fun _ _ _ _ => trivial), ?_⟩
  rw [hU]
  exact (((hSx.ad ha).kept (fun a h1 h2 => h.hS.2.1 a h1 h2)).narrow (h.free hA)).moved hW.alike
/-- behind a call -/
theorem call_next (hA : ∀ q : Nat, s.heap.size ≤ q → A q) (hs : Sim s D tA A nL ad0 n0 ad ls H locs L st σ) {rest st0 : List Value} (hrest : wfS σ.length rest) {pc cn sn mc ms : Nat} {av : Array Value} {P : Option Value → Hp → Prop}
    (hr : va_Run p l e R s m args below meth c H locs cn sn mc ms (F0 m pc ls st0) (rest.map (ph ad)) (QcG D tA ad σ (va_A (wsp ad tA σ) H.size) P av) (va_A (wsp ad tA σ) H.size))
    (hP : ∀ v σ', P v σ' → XW p l e R s m args below meth c Q D tA A nL ad0 n0 (pc + 3, L, v.toList ++ rest, σ', cn + mc, sn + ms)) : W p l e R s m args below meth c H locs cn sn Q (F0 m pc ls st0) := by
  have hF := hs.free hA
  intro T hT X
  obtain ⟨v, st₀, t, T', Lq, h0, X', hL, e1, e2, ⟨⟨v', σ', ad', hv, hp, ha, hlen, hw, hwv, hPP, hDD⟩, hz, hk⟩, stp⟩ := hr T hT X
  cases hv
  rw [h0] at hz hk
  obtain ⟨g1, g2, g3, g4, g5, g6, g7, g8, g9, g10⟩ := hs
  have hS1 : va_S A s.heap T'.heap (locs ++ Lq) := ⟨Nat.le_trans g10.1 (by rw [e1]; exact hz), fun q h1 h2 => by rw [e1, hk q (Nat.lt_of_lt_of_le h1 g10.1) (fun z => h2 (hF q z))]; exact g10.2.1 q h1 h2, fun q hq => by
      rcases List.mem_append.mp hq with h | h
      · exact g10.2.2 q h
      · exact hF _ (hL q h)⟩
  have hsim : Sim s D tA A nL ad0 n0 ad' ls T'.heap (locs ++ Lq) L (v'.toList ++ rest) σ' :=
    ⟨fun k hk => (ha k (Nat.lt_of_lt_of_le hk g2)).trans (g1 k hk), Nat.le_trans g2 hlen, hw, g4.le hlen, wfS.app (by
      cases v' with
      | none => exact fun _ h => absurd h List.not_mem_nil
      | some x => exact fun z hz => by rw [List.mem_singleton.mp hz]; exact hwv x rfl) (hrest.le hlen), g6, g7.ext g4 ha, by rw [e1]; exact hPP, hDD.weaken (fun _ q _ h => hF q.1 h), hS1⟩
  obtain ⟨t2, a1, b1⟩ := hP v' σ' hp ad' ls T'.heap (locs ++ Lq) hsim T' rfl X'
  refine ⟨t2, stp t2 ?_, b1⟩
  have e3 : (v'.toList ++ rest).map (ph ad') = (v'.map (ph ad')).toList ++ rest.map (ph ad) := by
    rw [List.map_append, phS_ext ha hrest]
    cases v' <;> rfl
  rw [← e3]
  exact a1
/-- the callee's words are among the caller's -/
theorem Env0.good (hE : Env0 p l R s m args meth c D tA A cc nL ad0 n0 Ts own y scr) {M : MI} (hM : M ∈ mths) : GoodIn Ts (wsM M) := by
  intro w hw
  have h1 : w ∈ goodTbl := by
    rcases List.mem_cons.mp hw with rfl | h
    · exact (mw_of hM).1
    · exact h
  exact ⟨hE.2.2.2.2.2.1 w h1, (goodTbl_ok w h1).2⟩
theorem Env0.wd (hE : Env0 p l R s m args meth c D tA A cc nL ad0 n0 Ts own y scr) {w : Cond} (hw : w ∈ goodTbl) : w.before args s = true := hE.2.2.2.2.1 w (hE.2.2.2.2.2.1 w hw)
theorem Env0.fix (hE : Env0 p l R s m args meth c D tA A cc nL ad0 n0 Ts own y scr) : CallFix p m c cc nL s args Ts own := ⟨hE.1, hE.2.1, hE.2.2.1, hE.2.2.2.1, hE.2.2.2.2.1⟩
theorem nPar_of {x : MethodName} {d : Nat} (h : nPar x d = true) : (parseMethodDescriptor x.desc).map (fun q => q.parameters.length) = some d := of_decide_eq_true h
theorem yOf_of {b : Nat} {M : MI} (h : gM mths b = some M) : yOf b = M.1 := by rw [yOf, h]
theorem notMH_B : mths.all (fun M => decide (M.1.cls ≠ "java/lang/invoke/MethodHandle") && decide (M.1.cls ≠ "java/lang/invoke/VarHandle")) = true := by decide +kernel
theorem notMH {M : MI} (h : M ∈ mths) : M.1.cls ≠ "java/lang/invoke/MethodHandle" ∧ M.1.cls ≠ "java/lang/invoke/VarHandle" := by
  have h1 := List.all_eq_true.mp notMH_B M h
  simp only [Bool.and_eq_true, decide_eq_true_eq] at h1
  exact h1
theorem map_split {xs r : List Value} : (xs ++ r).map (ph ad) = ((xs.reverse.map (ph ad)).reverse) ++ r.map (ph ad) := by
  rw [List.map_append, ← List.map_reverse, List.reverse_reverse]
theorem rest_cat {r : List Value} : ((r.map (ph ad)).map fun v => v.category).sum = (r.map fun v => v.category).sum := by
  rw [List.map_map]
  congr 1
  exact List.map_congr_left fun v _ => ph_cat ad v
theorem room_of {r : List Value} {pc : Nat} {st0 : List Value} (h : (r.map fun v => v.category).sum ≤ 8) : 2 * (F0 m pc ls st0).monitorRoom + ((r.map (ph ad)).map fun v => v.category).sum ≤ 8 := lv_room (by rw [rest_cat]; exact h)
/-- what the contract of a callee and the words give -/
theorem callB_go (hE : Env0 p l R s m args meth c D tA A cc nL ad0 n0 Ts own y scr) {M : MI} {b d idx mc ms : Nat} {rm : Room} (hM : gM mths b = some M) (q1 : rm.cells = mc) (q2 : rm.slots = ms) (q3 : rm.frames + 1 ≤ R.frames) (q4 : 8 + (M.2.2.1 + 11) + rm.locals ≤ R.locals)
    (hpar : nPar M.1 d = true) (hlink : (Cond.methodLink own idx M.1).before args s = true) : CallB R s args own idx M.1 M.2.1 M.2.2.1 M.2.2.2.1 (wsM M) rm mc ms d := by
  have hmem := gM_mem hM
  refine ⟨q1, q2, q3, q4, pay_in hE.2.2.2.2.1 (hE.good hmem), List.mem_cons_self, hE.wd (mw_of hmem).1, hE.wd (mw_of hmem).2.1, notMH hmem, fun sig h => ?_, hlink⟩
  have h2 := nPar_of hpar
  rw [h] at h2
  exact (Option.some.inj h2).symm
theorem callN_go (hE : Env0 p l R s m args meth c D tA A cc nL ad0 n0 Ts own y scr) {M : MI} {b d idx mc ms : Nat} {rm : Room} (hM : gM mths b = some M) (q1 : rm.cells = mc) (q2 : rm.slots = ms) (q3 : rm.frames + 1 ≤ R.frames) (q4 : 8 + (M.2.2.1 + 11) + rm.locals ≤ R.locals)
    (hpar : nPar M.1 d = true) (hlink : va_Nw (.methodLinkNest own idx M.1 RX11) s) : va_CN R s args own idx M.1 RX11 M.2.1 M.2.2.1 M.2.2.2.1 (wsM M) rm mc ms d := by
  have hmem := gM_mem hM
  refine ⟨⟨q1, q2, q3, q4, pay_in hE.2.2.2.2.1 (hE.good hmem), List.mem_cons_self⟩, hE.wd (mw_of hmem).1, hE.wd (mw_of hmem).2.1, notMH hmem, fun sig h => ?_, va_Nw.use rfl hlink⟩
  have h2 := nPar_of hpar
  rw [h] at h2
  exact (Option.some.inj h2).symm
theorem mw_static {M : MI} {q : Nat × Nat × Nat × Nat × Nat} (h : mwOne M q = true) : (q.2.2.2.1 = 0 ∧ Cond.instanceMethod M.1 ∈ goodTbl ∧ (q.2.2.2.2 = 9999 ∨ Cond.selects M.1.cls M.1 M.1 ∈ goodTbl)) ∨ Cond.static M.1 ∈ goodTbl := by
  simp only [mwOne, Bool.and_eq_true] at h
  have h1 := h.2
  split at h1
  · rename_i e
    simp only [Bool.and_eq_true, Bool.or_eq_true] at h1
    exact Or.inl ⟨e, wAt_ok h1.1, h1.2.imp Nat.eq_of_beq_eq_true wAt_ok⟩
  · exact Or.inr (wAt_ok h1)
/-- a static call -/
theorem go_static (hE : Env0 p l R s m args meth c D tA A cc nL ad0 n0 Ts own y scr) {cal : Cal} (hcal : CalOk l R cal) {bd : Nat × Nat} (hR : R.cells = bd.1 ∧ R.slots = bd.2) (hs : Sim s D tA A nL ad0 n0 ad ls H locs L st σ)
    {pc b d idx cn sn : Nat} {as r : List Value} (hpop : popA d [] st = some (as, r)) (hpar : nPar (yOf b) d = true) (hlink : (Cond.methodLink own idx (yOf b)).before args s = true ∨ va_Nw (.methodLinkNest own idx (yOf b) RX11) s)
    (hstat : (Cond.static (yOf b)).before args s = true)
    (hdg : decode cc pc = .ok (.invokestatic idx, 3)) (h : kcall cal b as σ r cn sn bd fun v σ' c' m' => XW p l e R s m args below meth c Q D tA A nL ad0 n0 (pc + 3, L, v.toList ++ r, σ', c', m')) : W p l e R s m args below meth c H locs cn sn Q (F0 m pc ls (st.map (ph ad))) := by
  obtain ⟨hcat, mc, ms, hbd, hk⟩ := kcall_of h
  obtain ⟨M, rm, hM, q1, q2, q3, q4, hmet⟩ := hcal _ _ _ _ _ _ hk
  obtain ⟨xs, rfl, e2, e3⟩ := popA_of d [] st as r hpop
  rw [List.append_nil] at e2
  subst e2
  rw [yOf_of hM] at hpar hlink hstat
  have hwf := hs.wst
  have hr : wfS σ.length r := fun v hv => hwf v (List.mem_append_right _ hv)
  have has : wfS σ.length xs.reverse := fun v hv => hwf v (List.mem_append_left _ (List.mem_reverse.mp hv))
  have hpre : PreS s H (va_Pc (xs.reverse.map (ph ad)) (PicS D tA ad H.size σ)) (xs.reverse.map (ph ad)) := ⟨PicS.blind, fun U hU hW => ⟨rfl, hs.pic hE hU hW⟩⟩
  have hlen : (xs.reverse.map (ph ad)).length = d := by rw [List.length_map, List.length_reverse, e3]
  have hf : cn + mc ≤ R.cells ∧ sn + ms ≤ R.slots := ⟨by rw [hR.1]; exact hbd.1, by rw [hR.2]; exact hbd.2⟩
  rw [map_split]
  rcases hlink with hl | hl
  · exact call_next hE.2.2.2.2.2.2.1 hs hr (va_runS hE.fix (hmet D tA ad H.size hs.wh has) ⟨callB_go hE hM q1 q2 q3 q4 hpar hl, hstat⟩ hpre rfl hlen hs.lh.1 rfl (room_of hcat) hdg hf) (fun v σ' h => h)
  · exact call_next hE.2.2.2.2.2.2.1 hs hr (va_runSN hE.fix (hmet D tA ad H.size hs.wh has) ⟨callN_go hE hM q1 q2 q3 q4 hpar hl, hstat, trivial⟩ hpre rfl hlen hs.lh.1 rfl (room_of hcat) hdg hf) (fun v σ' h => h)
theorem map_splitR {xs r : List Value} {q : Nat} : (xs ++ .ref q :: r).map (ph ad) = ((xs.reverse.map (ph ad)).reverse) ++ .ref (ad q) :: r.map (ph ad) := by
  rw [List.map_append, ← List.map_reverse, List.reverse_reverse]; rfl
/-- a constructor's call -/
theorem go_init (hE : Env0 p l R s m args meth c D tA A cc nL ad0 n0 Ts own y scr) {cal : Cal} (hcal : CalOk l R cal) {bd : Nat × Nat} (hR : R.cells = bd.1 ∧ R.slots = bd.2) (hs : Sim s D tA A nL ad0 n0 ad ls H locs L st σ)
    {pc b d idx cn sn q : Nat} {as r : List Value} (hpop : popA d [] st = some (as, .ref q :: r)) (hpar : nPar (yOf b) d = true) (hname : (yOf b).name = "<init>") (hret : ∀ M, gM mths b = some M → M.2.2.2.1 = none) (hlink : (Cond.methodLink own idx (yOf b)).before args s = true ∨ va_Nw (.methodLinkNest own idx (yOf b) RX11) s)
    (hinst : (Cond.instanceMethod (yOf b)).before args s = true)
    (hdg : decode cc pc = .ok (.invokespecial idx, 3)) (h : kcall cal b (.ref q :: as) σ r cn sn bd fun v σ' c' m' => XW p l e R s m args below meth c Q D tA A nL ad0 n0 (pc + 3, L, v.toList ++ r, σ', c', m')) : W p l e R s m args below meth c H locs cn sn Q (F0 m pc ls (st.map (ph ad))) := by
  obtain ⟨hcat, mc, ms, hbd, hk⟩ := kcall_of h
  obtain ⟨M, rm, hM, q1, q2, q3, q4, hmet⟩ := hcal _ _ _ _ _ _ hk
  obtain ⟨xs, rfl, e2, e3⟩ := popA_of d [] st as _ hpop
  rw [List.append_nil] at e2
  subst e2
  rw [yOf_of hM] at hpar hlink hinst hname
  have hn := hret M hM
  have hwf := hs.wst
  have hr : wfS σ.length r := fun v hv => hwf v (List.mem_append_right _ (List.mem_cons_of_mem _ hv))
  have has : wfS σ.length (.ref q :: xs.reverse) := by
    intro v hv
    rcases List.mem_cons.mp hv with rfl | hv
    · exact hwf _ (List.mem_append_right _ List.mem_cons_self)
    · exact hwf v (List.mem_append_left _ (List.mem_reverse.mp hv))
  have hpre : PreS s H (va_Pc ((Value.ref q :: xs.reverse).map (ph ad)) (PicS D tA ad H.size σ)) (.ref (ad q) :: xs.reverse.map (ph ad)) := ⟨PicS.blind, fun U hU hW => ⟨rfl, hs.pic hE hU hW⟩⟩
  have hlen : (xs.reverse.map (ph ad)).length = d := by rw [List.length_map, List.length_reverse, e3]
  have hf : cn + mc ≤ R.cells ∧ sn + ms ≤ R.slots := ⟨by rw [hR.1]; exact hbd.1, by rw [hR.2]; exact hbd.2⟩
  rw [map_splitR]
  rcases hlink with hl | hl
  · have cw := callB_go hE hM q1 q2 q3 q4 hpar hl
    rw [hn] at cw
    exact call_next hE.2.2.2.2.2.2.1 hs hr (va_runI hE.fix (hmet D tA ad H.size hs.wh has) ⟨cw, hname, hinst⟩ hpre rfl hlen hs.lh.1 rfl (room_of hcat) hdg hf) (fun v σ' h => h)
  · have cw := callN_go hE hM q1 q2 q3 q4 hpar hl
    rw [hn] at cw
    exact call_next hE.2.2.2.2.2.2.1 hs hr (va_runIN hE.fix (hmet D tA ad H.size hs.wh has) ⟨cw, hname, hinst⟩ hpre rfl hlen hs.lh.1 rfl (room_of hcat) hdg hf) (fun v σ' h => h)
/-- the receiver's cell -/
theorem Sim.recv (hC : va_K D vwCl (tyL tA) s) (hs : Sim s D tA A nL ad0 n0 ad ls H locs L st σ) {q ci : Nat} {fs : List Value} (hq : gH σ q = some (.inr (ci, fs))) (hc : ci < 13) : ∃ cell : Cell, H[ad q]? = some cell ∧ cell.vm.isStatics = false ∧ s.vm.findClass (sAt cidx ci) = some cell.cls := by
  have h1 := wsp_get (ad := ad) (tA := tA) hq (hs.wh.ge_obj hq hc)
  exact va_recv hC hs.hP (cl_at ci hc) h1
/-- a call of a method of the receiver's own class -/
theorem go_exact (hE : Env0 p l R s m args meth c D tA A cc nL ad0 n0 Ts own y scr) {cal : Cal} (hcal : CalOk l R cal) {bd : Nat × Nat} (hR : R.cells = bd.1 ∧ R.slots = bd.2) (hs : Sim s D tA A nL ad0 n0 ad ls H locs L st σ)
    {pc b d idx cn sn q ci : Nat} {as r fs : List Value} (hpop : popA d [] st = some (as, .ref q :: r)) (hq : gH σ q = some (.inr (ci, fs))) (hc : ci < 13) (hpar : nPar (yOf b) d = true) (hcls : (yOf b).cls = sAt cidx ci) (hlink : (Cond.methodLink own idx (yOf b)).before args s = true)
    (hinst : (Cond.instanceMethod (yOf b)).before args s = true) (hsel : (Cond.selects (yOf b).cls (yOf b) (yOf b)).before args s = true)
    (hdg : decode cc pc = .ok (.invokevirtual idx, 3)) (h : kcall cal b (.ref q :: as) σ r cn sn bd fun v σ' c' m' => XW p l e R s m args below meth c Q D tA A nL ad0 n0 (pc + 3, L, v.toList ++ r, σ', c', m')) : W p l e R s m args below meth c H locs cn sn Q (F0 m pc ls (st.map (ph ad))) := by
  obtain ⟨hcat, mc, ms, hbd, hk⟩ := kcall_of h
  obtain ⟨M, rm, hM, q1, q2, q3, q4, hmet⟩ := hcal _ _ _ _ _ _ hk
  obtain ⟨xs, rfl, e2, e3⟩ := popA_of d [] st as _ hpop
  rw [List.append_nil] at e2
  subst e2
  rw [yOf_of hM] at hpar hlink hinst hsel hcls
  have hwf := hs.wst
  have hr : wfS σ.length r := fun v hv => hwf v (List.mem_append_right _ (List.mem_cons_of_mem _ hv))
  have has : wfS σ.length (.ref q :: xs.reverse) := by
    intro v hv
    rcases List.mem_cons.mp hv with rfl | hv
    · exact hwf _ (List.mem_append_right _ List.mem_cons_self)
    · exact hwf v (List.mem_append_left _ (List.mem_reverse.mp hv))
  have hpre : PreV s H M.1.cls (ad q) (va_Pc ((Value.ref q :: xs.reverse).map (ph ad)) (PicS D tA ad H.size σ)) (xs.reverse.map (ph ad)) := ⟨PicS.blind, by rw [hcls]; exact hs.recv hE.2.2.2.2.2.2.2.1.1 hq hc, fun U hU hW => ⟨rfl, hs.pic hE hU hW⟩⟩
  have hlen : (xs.reverse.map (ph ad)).length = d := by rw [List.length_map, List.length_reverse, e3]
  have hf : cn + mc ≤ R.cells ∧ sn + ms ≤ R.slots := ⟨by rw [hR.1]; exact hbd.1, by rw [hR.2]; exact hbd.2⟩
  rw [map_splitR]
  exact call_next hE.2.2.2.2.2.2.1 hs hr (va_runV hE.fix (hmet D tA ad H.size hs.wh has) ⟨callB_go hE hM q1 q2 q3 q4 hpar hlink, hinst, hsel⟩ hpre rfl hlen hs.lh.1 rfl (room_of hcat) hdg hf) (fun v σ' h => h)
/-- a call whose method the receiver's class chooses -/
theorem go_disp (hE : Env0 p l R s m args meth c D tA A cc nL ad0 n0 Ts own y scr) {cal : Cal} (hcal : CalOk l R cal) {bd : Nat × Nat} (hR : R.cells = bd.1 ∧ R.slots = bd.2) (hs : Sim s D tA A nL ad0 n0 ad ls H locs L st σ)
    {pc b d idx cn sn q ci : Nat} {x : MethodName} {as r fs : List Value} (hpop : popA d [] st = some (as, .ref q :: r)) (hq : gH σ q = some (.inr (ci, fs))) (hc : ci < 13) (hpar : nPar x d = true) (hlink : (Cond.methodLink own idx x).before args s = true)
    (hsame : (Cond.sameMethod x.cls RX3 x.name x.desc).before args s = true) (hdecl : va_Decl s ⟨RX3, x.name, x.desc⟩) (hsel : (Cond.selects (sAt cidx ci) x (yOf b)).before args s = true) (hinst : (Cond.instanceMethod (yOf b)).before args s = true)
    (hdg : decode cc pc = .ok (.invokevirtual idx, 3)) (h : kcall cal b (.ref q :: as) σ r cn sn bd fun v σ' c' m' => XW p l e R s m args below meth c Q D tA A nL ad0 n0 (pc + 3, L, v.toList ++ r, σ', c', m')) : W p l e R s m args below meth c H locs cn sn Q (F0 m pc ls (st.map (ph ad))) := by
  obtain ⟨hcat, mc, ms, hbd, hk⟩ := kcall_of h
  obtain ⟨M, rm, hM, q1, q2, q3, q4, hmet⟩ := hcal _ _ _ _ _ _ hk
  obtain ⟨xs, rfl, e2, e3⟩ := popA_of d [] st as _ hpop
  rw [List.append_nil] at e2
  subst e2
  rw [yOf_of hM] at hsel hinst
  have hmem := gM_mem hM
  have hwf := hs.wst
  have hr : wfS σ.length r := fun v hv => hwf v (List.mem_append_right _ (List.mem_cons_of_mem _ hv))
  have has : wfS σ.length (.ref q :: xs.reverse) := by
    intro v hv
    rcases List.mem_cons.mp hv with rfl | hv
    · exact hwf _ (List.mem_append_right _ List.mem_cons_self)
    · exact hwf v (List.mem_append_left _ (List.mem_reverse.mp hv))
  have hpre : PreV s H (sAt cidx ci) (ad q) (va_Pc ((Value.ref q :: xs.reverse).map (ph ad)) (PicS D tA ad H.size σ)) (xs.reverse.map (ph ad)) := ⟨PicS.blind, hs.recv hE.2.2.2.2.2.2.2.1.1 hq hc, fun U hU hW => ⟨rfl, hs.pic hE hU hW⟩⟩
  have hlen : (xs.reverse.map (ph ad)).length = d := by rw [List.length_map, List.length_reverse, e3]
  have hf : cn + mc ≤ R.cells ∧ sn + ms ≤ R.slots := ⟨by rw [hR.1]; exact hbd.1, by rw [hR.2]; exact hbd.2⟩
  have cw : va_CU R s args own (sAt cidx ci) RX3 idx x M.1 M.2.1 M.2.2.1 M.2.2.2.1 (wsM M) rm mc ms d := by
    refine ⟨⟨q1, q2, q3, q4, pay_in hE.2.2.2.2.1 (hE.good hmem), List.mem_cons_self⟩, hE.wd (mw_of hmem).1, hE.wd (mw_of hmem).2.1, ⟨by decide, by decide⟩, fun sig h => ?_, hlink, hsame, hdecl, hsel, hinst⟩
    have h2 := nPar_of hpar
    rw [h] at h2
    exact (Option.some.inj h2).symm
  rw [map_splitR]
  exact call_next hE.2.2.2.2.2.2.1 hs hr (va_runU hE.fix (hmet D tA ad H.size hs.wh has) cw hpre rfl hlen hs.lh.1 rfl (room_of hcat) hdg hf) (fun v σ' h => h)
end STP
