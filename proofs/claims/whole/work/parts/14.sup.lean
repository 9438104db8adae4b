/-! SUPER: a call of the superclass's method, also one that it inherits -/
section SUP
variable {p : Program} {l : Launch} {e : Env} {R : Room} {s : State} {m : MethodId} {args : Array Value} {below : List Frame} {meth : Method} {c : Code} {Q : State → Prop}
theorem so_callSU {T : State} {locs : List Loc} {cells slots : Nat} (X : Stand p l e R s m args below meth c T locs cells slots) (hexec : p.tables.exec = Jvm.exec) {own owner : String} {index : Nat} {x y : MethodName} {bytes : ByteArray} {maxL : Nat} {ret : Option FieldType}
    (hown : s.vm.findClass own = some m.cls) (hlink : (Cond.methodLink own index x).before args s = true) (hyx : y = ⟨owner, x.name, x.desc⟩) (hsame : (Cond.sameMethod x.cls owner x.name x.desc).before args s = true) (hsup : (Cond.superclass own x.cls).before args s = true)
    (hup : x.cls = owner ∨ (Cond.superclass x.cls owner).before args s = true)
    (hinst : (Cond.instanceMethod y).before args s = true) (hcode : (Cond.code y bytes maxL ret).before args s = true) (hno : x.name ≠ "<init>")
    {W : Nat} {Pre : Pt → Array Value → Prop} {Post : Pt → Array Value → Option Value → Pt → Prop} (hK : Back l R p e below s args y 3 W Pre Post)
    {b : Addr} {cellB : Cell} {kB : Class} (hcell : T.heap[b]? = some cellB) (hobj : cellB.vm.isStatics = false) (hkB : s.vm.classes[cellB.cls]? = some kB)
    {g : JFrame} (hg : g.method = m) (hsize : g.locals.size = c.maxLocals) {argsL rest : List Value} (hlen : ∀ sig, parseMethodDescriptor y.desc = some sig → argsL.length = sig.parameters.length)
    (hstack : g.stack = argsL.reverse ++ .ref b :: rest) (hW : 2 * g.monitorRoom + (rest.map fun v => v.category).sum ≤ W) (hdg : decode c.code g.pc = .ok (.invokespecial index, 3))
    (hpre : ∀ vm₁, s.WarmedH vm₁ → Pre ⟨T.setVm vm₁, locs, cells, slots⟩ (Value.ref b :: argsL).toArray) :
    ∃ (v : Option Value) (vm₁ : Vm) (B : Pt), s.WarmedH vm₁ ∧ Stand p l e R s m args below meth c B.U B.locs B.cells B.slots ∧ Post ⟨T.setVm vm₁, locs, cells, slots⟩ (Value.ref b :: argsL).toArray v B ∧
      ∀ target, Steps p.tables e below (B.U.setTop { g with pc := g.pc + 3, stack := v.toList ++ rest }) target → Steps p.tables e below (T.setTop g) target := by
  obtain ⟨mk, methM, hnamed, hmethM, hstM, habM⟩ := Cond.instanceMethod_spec hinst
  obtain ⟨methM', cM, hmethM', -, -, -, -, -, -, hsigM⟩ := Cond.code_spec hnamed hcode
  cases hmethM.symm.trans hmethM'
  obtain ⟨ps, dk, kp, hps, hdk, hkp, hsuper, -, -, hnid⟩ := Cond.superclass_spec hown hsup
  have hn : s.methodNamed? ⟨owner, x.name, x.desc⟩ = some mk := by rw [← hyx]; exact hnamed
  have hcl : s.vm.findClass owner = some mk.cls := findClass_of_methodNamed (x := ⟨owner, x.name, x.desc⟩) hn
  have hsub : s.vm.isSubclass ps mk.cls = true := by
    rcases hup with h | h
    · have hpm : ps = mk.cls := Option.some.inj (hps.symm.trans (by rw [h]; exact hcl))
      rw [hpm]; simp [Vm.isSubclass, Vm.isSubclassAux]
    · obtain ⟨p2, k2, kp2, g1, g2, g3, g4, -, -, -⟩ := Cond.superclass_spec hps h
      have hpm : p2 = mk.cls := Option.some.inj (g1.symm.trans hcl)
      subst hpm
      have hsz : ps < s.vm.classes.size := (Array.getElem?_eq_some_iff.mp g2).1
      obtain ⟨n, hn⟩ : ∃ n, s.vm.classes.size = n + 1 := ⟨s.vm.classes.size - 1, (Nat.succ_pred_eq_of_pos (Nat.lt_of_le_of_lt (Nat.zero_le _) hsz)).symm⟩
      simp [Vm.isSubclass, Vm.isSubclassAux, hn, g2, g4]
  obtain ⟨vm₁, X₁, hstep₁⟩ := X.invokespecialUp hexec hown hlink hsame hn hmethM hstM habM hno hdk hnid hps hsuper hsub (a := b) (cell := cellB) hcell
    (fun z h => by rw [h] at hobj; cases hobj) hkB (g := g) hg (argsL := argsL) (rest := rest) (hlen _ hsigM) hstack hdg
  obtain ⟨v, B, X', hpost, hsteps⟩ := hK m meth c ⟨T.setVm vm₁, locs, cells, slots⟩ { g with stack := rest } (.invokespecial index) mk (Value.ref b :: argsL).toArray X₁ hg hsize hdg hW (X₁.named hnamed) (hpre vm₁ X₁.warmed)
  exact ⟨v, vm₁, B, X₁.warmed, X', hpost, fun target h => hstep₁ _ (by rw [doInvoke_state]; exact hsteps.trans h)⟩
variable {D : va_G} {tA : FieldType → ClassId} {A : Nat → Prop} {cc : ByteArray} {nL : Nat} {ad0 : Nat → Nat} {n0 : Nat} {Ts : List Cond} {own : String} {y : MethodName} {scr : Option (Nat × (Nat → Int32))}
variable {ad : Nat → Nat} {ls : Array Slot} {H : Heap} {locs : List Loc} {L : Lc} {st st' : List Value} {σ : Hp}
theorem go_super (hE : Env0 p l R s m args meth c D tA A cc nL ad0 n0 Ts own y scr) {cal : Cal} (hcal : CalOk l R cal) {bd : Nat × Nat} (hR : R.cells = bd.1 ∧ R.slots = bd.2) (hs : Sim s D tA A nL ad0 n0 ad ls H locs L st σ)
    {pc b d idx cn sn q ci : Nat} {x : MethodName} {as r fs : List Value} (hpop : popA d [] st = some (as, .ref q :: r)) (hq : gH σ q = some (.inr (ci, fs))) (hc : ci < 13) (hpar : nPar x d = true) (hlink : (Cond.methodLink own idx x).before args s = true)
    (hyx : yOf b = ⟨(yOf b).cls, x.name, x.desc⟩) (hsame : (Cond.sameMethod x.cls (yOf b).cls x.name x.desc).before args s = true) (hsup : (Cond.superclass own x.cls).before args s = true) (hup : x.cls = (yOf b).cls ∨ (Cond.superclass x.cls (yOf b).cls).before args s = true) (hno : x.name ≠ "<init>")
    (hinst : (Cond.instanceMethod (yOf b)).before args s = true)
    (hdg : decode cc pc = .ok (.invokespecial idx, 3)) (h : kcall cal b (.ref q :: as) σ r cn sn bd fun v σ' c' m' => XW p l e R s m args below meth c Q D tA A nL ad0 n0 (pc + 3, L, v.toList ++ r, σ', c', m')) : W p l e R s m args below meth c H locs cn sn Q (F0 m pc ls (st.map (ph ad))) := by
  obtain ⟨hcat, mc, ms, hbd, hk⟩ := kcall_of h
  obtain ⟨M, rm, hM, q1, q2, q3, q4, hmet⟩ := hcal _ _ _ _ _ _ hk
  obtain ⟨xs, rfl, e2, e3⟩ := popA_of d [] st as _ hpop
  rw [List.append_nil] at e2
  subst e2
  rw [yOf_of hM] at hyx hsame hup hinst
  have hmem := gM_mem hM
  have hwf := hs.wst
  have hr : wfS σ.length r := fun v hv => hwf v (List.mem_append_right _ (List.mem_cons_of_mem _ hv))
  have has : wfS σ.length (.ref q :: xs.reverse) := by
    intro v hv
    rcases List.mem_cons.mp hv with rfl | hv
    · exact hwf _ (List.mem_append_right _ List.mem_cons_self)
    · exact hwf v (List.mem_append_left _ (List.mem_reverse.mp hv))
  have hlen : (xs.reverse.map (ph ad)).length = d := by rw [List.length_map, List.length_reverse, e3]
  have hf : cn + mc ≤ R.cells ∧ sn + ms ≤ R.slots := ⟨by rw [hR.1]; exact hbd.1, by rw [hR.2]; exact hbd.2⟩
  obtain ⟨hx, hb, hml, ho, hts⟩ := hE.fix
  obtain ⟨cellB, hcB, hoB, hclB⟩ := hs.recv hE.2.2.2.2.2.2.2.1.1 hq hc
  obtain ⟨-, hfc, kB, hkB, -⟩ := hE.2.2.2.2.2.2.2.1.1.1 ci _ (cl_at ci hc)
  have hcc : D.1 ci = cellB.cls := Option.some.inj (hfc.symm.trans hclB)
  rw [hcc] at hkB
  have hcode := hE.wd (mw_of hmem).1
  have hini := hE.wd (mw_of hmem).2.1
  have hK : Back l R p e below s args M.1 3 8 (PreOf R mc ms (va_Pc ((Value.ref q :: xs.reverse).map (ph ad)) (PicS D tA ad H.size σ))) (PostOf (QcG D tA ad σ (va_A (wsp ad tA σ) H.size) _) mc ms (va_A (wsp ad tA σ) H.size)) :=
    back_of (bytes := M.2.1) (maxL := M.2.2.1) (ret := M.2.2.2.1) (hmet D tA ad H.size hs.wh has) PicS.blind q1 q2 q3 q4 (pay_in hts (hE.good hmem)) List.mem_cons_self (fun a' U hW => word_at hW (Or.inl (by first | rfl | simp [Cond.onTables, Cond.keeps, Cond.steady])) hini)
  rw [map_splitR]
  refine call_next hE.2.2.2.2.2.2.1 hs hr (mc := mc) (ms := ms) (av := ((Value.ref q :: xs.reverse).map (ph ad)).toArray) ?_ (fun v σ' h => h)
  intro T hT X
  obtain ⟨v, vm₁, ⟨U', l2, c2, s2⟩, hW₁, X', ⟨g', mk, t, L', e1, e2, hq', h1, hL, h2, h3⟩, stp⟩ := so_callSU X hx (bytes := M.2.1) (maxL := M.2.2.1) (ret := M.2.2.2.1) ho hlink hyx hsame hsup hup hinst hcode hno hK (by rw [hT]; exact hcB) hoB hkB (g := F0 m pc ls ((xs.reverse.map (ph ad)).reverse ++ .ref (ad q) :: r.map (ph ad))) rfl (hs.lh.1.trans hml.symm) (argsL := xs.reverse.map (ph ad)) (rest := r.map (ph ad)) (fun sig h => hlen.trans (by
      have h2 := nPar_of hpar
      have h4 : M.1.desc = x.desc := by rw [hyx]
      rw [← h4, h] at h2
      exact (Option.some.inj h2).symm)) rfl (room_of hcat) (by rw [hb]; exact hdg)
    (fun vm₁ hW₁ => ⟨hf.1, hf.2, ⟨rfl, hs.pic hE (U := T.setVm vm₁) hT hW₁⟩⟩)
  dsimp only [Pt.U, Pt.locs, Pt.cells, Pt.slots] at X' e1 e2 h1 h2 h3 stp
  subst h1; subst h2; subst h3
  exact ⟨v, (T.setVm vm₁).calling g' mk _, t, U', L', hT, X', hL, e1, e2, hq', stp⟩
end SUP
