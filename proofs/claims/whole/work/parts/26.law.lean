/-! LAW: the law's walk out of one Wp: the tables' words, the text constants, the first picture; the middle of the kit's skeleton stands first -/
/-! THE CLAIM OUT OF ONE WALK OF THE LAW'S BODY. Your part is whole_start (and what it stands on); all else here is the same for every law, but numbers. -/
def R_law : String := "ToldMeThatLaw"
def lw_P (b : Addr) (xs : List Int32) (args : Array Value) (s : State) : Prop := args = #[.ref b] ∧ s.IntsAt b xs ∧ xs.length ≤ 3072 ∧ (Jvm.Cond.and given_1 narrow_1).before args s = true
def lw_Q (_ : Array Value) (s : State) (o : Outcome) (t : State) : Prop := o = .returned (some (.int 1)) ∧ Framed s o t [] 600000 7302250
def lw_Z (below : List Frame) (a : Array Value) (s : State) : State → Prop := fun t => ∃ o, t.status = .running ∧ Ended t below o ∧ lw_Q a s o t
/-- the law's own end, with 1 on the stack, nothing written that was there before, its room as the claim has it -/
theorem lw_ret {p : Program} {l : Launch} {e : Env} {s : State} {m : MethodId} {below : List Frame} {meth : Method} {c : Code} {b : Nat} (hx : p.tables.exec = Jvm.exec) (hb : c.code = code) (hr : meth.sig.returnType = ret) (hlocks : meth.locks = false) {pc : Nat} {H : Heap} {ls : Array Slot} (hdg : decode code pc = .ok (.ireturn, 1)) : W p l e room_1 s m #[Value.ref b] below meth c H [] 600000 7302250 (lw_Z below #[Value.ref b] s) (F0 m pc ls [.int 1]) := by
  intro T hT X
  obtain ⟨fs, hret, hrun, hended, hW, hframe⟩ := X.leave (v := some (.int 1)) (hlocks := hlocks) (fun h => by rw [hr] at h; cases h)
  have hmeth' : T.vm.method? m = some meth := X.method'
  refine ⟨T.setFrames fs, ?_, .returned (some (.int 1)), hrun, hended, rfl, ⟨_, rfl⟩, hW, hframe⟩
  jvm_step X.here [X.here.top, hx, hb, hdg, hmeth', hr, ret, narrow_b1]
  (try refine ⟨rfl, ?_⟩); (try refine ⟨rfl, ?_⟩)
  first | (intro acts; rw [hret _ acts rfl rfl rfl]) | rw [hret _ _ rfl rfl rfl]
  exact Steps.refl _
/-- what holds at the law's entry: the machine, the code, the tables' words (any of lw_tbl by 'hts w (by decide +kernel)'), the script of L ints xs at the cell b, what the Statement gives of the start (any of its parts by flat_of_before) -/
def lw_At (p : Program) (s : State) (m : MethodId) (meth : Method) (c : Code) (b L : Nat) (xs : Nat → Int32) : Prop :=
  p.tables.exec = Jvm.exec ∧ c.code = code ∧ meth.sig.returnType = ret ∧ c.maxLocals = 4 ∧ s.vm.findClass R_law = some m.cls ∧ (∀ w ∈ lw_tbl, w.before #[Value.ref b] s = true) ∧ va_X b L xs s s.heap ∧ b < s.heap.size ∧ meth.locks = false ∧ (Jvm.Cond.and given_1 narrow_1).before #[Value.ref b] s = true
noncomputable def mi_law : MI := (yL_law, code, 4, some .boolean, RL, tb_law)
theorem wIn {i : Nat} {w : Cond} (h : decide (wNth (wCh (i / 1000)) (i % 1000) = some w) = true) : w ∈ lw_tbl := wCh_in _ _ (wNth_mem _ _ _ (of_decide_eq_true h))
theorem gtIn {w : Cond} (h : w ∈ goodTbl) : w ∈ lw_tbl := (List.mem_filter.mp h).1
theorem arr_ref {args : Array Value} {s : State} {C : String} (h : (Cond.arrayOver (.object C)).before args s = true) : ∃ cA : ClassId, ArrOfT s cA (.object C) ∧ va_RA s cA (.object C) := by
  obtain ⟨comp, c, k, h1, h2, h3, h4, h5⟩ := Cond.arrayOver_spec h
  exact ⟨c, fun n z => ⟨fun k h => (by cases h), k, h3, comp, h4⟩, k, comp, h3, h4, h1, h5⟩
theorem arr_int {args : Array Value} {s : State} (h : (Cond.arrayClass .int).before args s = true) : ∃ cA : ClassId, ArrOfT s cA .int ∧ va_RA s cA .int := by
  obtain ⟨c, k, comp, h1, h2, h3⟩ := Cond.arrayClass_spec h
  exact ⟨c, fun n z => ⟨fun k h => (by cases h), k, h2, comp, h3⟩, h1⟩
theorem arr_byte {args : Array Value} {s : State} (h : (Cond.arrayClass .byte).before args s = true) : ∃ cA : ClassId, ArrOfT s cA .byte ∧ va_RA s cA .byte := by
  obtain ⟨c, k, comp, h1, h2, h3⟩ := Cond.arrayClass_spec h
  exact ⟨c, fun n z => ⟨fun k h => (by cases h), k, h2, comp, h3⟩, h1⟩
theorem arr_boolean {args : Array Value} {s : State} (h : (Cond.arrayClass .boolean).before args s = true) : ∃ cA : ClassId, ArrOfT s cA .boolean ∧ va_RA s cA .boolean := by
  obtain ⟨c, k, comp, h1, h2, h3⟩ := Cond.arrayClass_spec h
  exact ⟨c, fun n z => ⟨fun k h => (by cases h), k, h2, comp, h3⟩, h1⟩
theorem arr_long {args : Array Value} {s : State} (h : (Cond.arrayClass .long).before args s = true) : ∃ cA : ClassId, ArrOfT s cA .long ∧ va_RA s cA .long := by
  obtain ⟨c, k, comp, h1, h2, h3⟩ := Cond.arrayClass_spec h
  exact ⟨c, fun n z => ⟨fun k h => (by cases h), k, h2, comp, h3⟩, h1⟩
theorem law_tA {args : Array Value} {s : State} (hts : ∀ w ∈ lw_tbl, w.before args s = true) : ∃ tA : FieldType → ClassId, ∀ (k : Nat) (q : ClassId × FieldType), (tyL tA)[k]? = some q → ArrOfT s q.1 q.2 ∧ va_RA s q.1 q.2 := by
  have hg : ∀ {i : Nat} {w : Cond}, wAt i w = true → w.before args s = true := fun h => hts _ (gtIn (wAt_ok h))
  have h0 : ∀ ty : FieldType, ∃ cA : ClassId, ty ∈ tyT → ArrOfT s cA ty ∧ va_RA s cA ty := by
    intro ty
    by_cases h : ty ∈ tyT
    · simp only [tyT, List.mem_cons, List.not_mem_nil, or_false] at h
      rcases h with rfl | rfl | rfl | rfl | rfl | rfl | rfl
      · exact (arr_int (hg w_arr_int)).imp fun _ q _ => q
      · exact (arr_byte (hg w_arr_byte)).imp fun _ q _ => q
      · exact (arr_boolean (hg w_arr_boolean)).imp fun _ q _ => q
      · exact (arr_long (hg w_arr_long)).imp fun _ q _ => q
      · exact (arr_ref (hts _ (wIn (i := 1036) (by decide +kernel)))).imp fun _ q _ => q
      · exact (arr_ref (hts _ (wIn (i := 1100) (by decide +kernel)))).imp fun _ q _ => q
      · exact (arr_ref (hts _ (wIn (i := 1118) (by decide +kernel)))).imp fun _ q _ => q
    · exact ⟨(s.vm.findClass "").getD default, fun z => absurd z h⟩
  obtain ⟨tA, htA⟩ := Classical.axiomOfChoice h0
  refine ⟨tA, fun k q hq => ?_⟩
  rw [tyL, List.getElem?_map] at hq
  cases ht : tyT[k]? with
  | none => rw [ht] at hq; cases hq
  | some ty =>
    rw [ht] at hq
    cases hq
    exact htA ty (List.mem_of_getElem? ht)
theorem law_D {args : Array Value} {s : State} (hts : ∀ w ∈ lw_tbl, w.before args s = true) : ∃ D : va_G, ∀ (c : Nat) (q : vw_C), vwCl[c]? = some q → u_Kn s q.1 q.2.1 q.2.2 (D.1 c) (D.2 c) := by
  have hg : ∀ {i : Nat} {w : Cond}, wAt i w = true → w.before args s = true := fun h => hts _ (gtIn (wAt_ok h))
  have h0 : ∀ c : Nat, ∃ z : ClassId × (Nat → Nat), ∀ q : vw_C, vwCl[c]? = some q → u_Kn s q.1 q.2.1 q.2.2 z.1 z.2 := by
    intro c
    match c with
    | 0 => obtain ⟨a, b, h⟩ := u_known (C := RX0) (T := TX0) (N := 4) (n := 4) hts (fun w hw => gtIn (cl_lay 0 (by decide) w hw)) (hg w_cls0.1); exact ⟨(a, b), fun q hq => by cases hq; exact h⟩
    | 1 => obtain ⟨a, b, h⟩ := u_known (C := RX1) (T := TX1) (N := 4) (n := 4) hts (fun w hw => gtIn (cl_lay 1 (by decide) w hw)) (hg w_cls1.1); exact ⟨(a, b), fun q hq => by cases hq; exact h⟩
    | 2 => obtain ⟨a, b, h⟩ := u_known (C := RX2) (T := TX2) (N := 4) (n := 4) hts (fun w hw => gtIn (cl_lay 2 (by decide) w hw)) (hg w_cls2.1); exact ⟨(a, b), fun q hq => by cases hq; exact h⟩
    | 3 => obtain ⟨a, b, h⟩ := u_known (C := RX3) (T := TX3) (N := 4) (n := 4) hts (fun w hw => gtIn (cl_lay 3 (by decide) w hw)) (hg w_cls3.1); exact ⟨(a, b), fun q hq => by cases hq; exact h⟩
    | 4 => obtain ⟨a, b, h⟩ := u_known (C := RX4) (T := TX4) (N := 4) (n := 4) hts (fun w hw => gtIn (cl_lay 4 (by decide) w hw)) (hg w_cls4.1); exact ⟨(a, b), fun q hq => by cases hq; exact h⟩
    | 5 => obtain ⟨a, b, h⟩ := u_known (C := RX5) (T := TX5) (N := 8) (n := 8) hts (fun w hw => gtIn (cl_lay 5 (by decide) w hw)) (hg w_cls5.1); exact ⟨(a, b), fun q hq => by cases hq; exact h⟩
    | 6 => obtain ⟨a, b, h⟩ := u_known (C := RX6) (T := TX6) (N := 4) (n := 4) hts (fun w hw => gtIn (cl_lay 6 (by decide) w hw)) (hg w_cls6.1); exact ⟨(a, b), fun q hq => by cases hq; exact h⟩
    | 7 => obtain ⟨a, b, h⟩ := u_known (C := RX7) (T := TX7) (N := 15) (n := 15) hts (fun w hw => gtIn (cl_lay 7 (by decide) w hw)) (hg w_cls7.1); exact ⟨(a, b), fun q hq => by cases hq; exact h⟩
    | 8 => obtain ⟨a, b, h⟩ := u_known (C := RX8) (T := TX8) (N := 3) (n := 3) hts (fun w hw => gtIn (cl_lay 8 (by decide) w hw)) (hg w_cls8.1); exact ⟨(a, b), fun q hq => by cases hq; exact h⟩
    | 9 => obtain ⟨a, b, h⟩ := u_known (C := RX9) (T := TX9) (N := 4) (n := 4) hts (fun w hw => gtIn (cl_lay 9 (by decide) w hw)) (hg w_cls9.1); exact ⟨(a, b), fun q hq => by cases hq; exact h⟩
    | 10 => obtain ⟨a, b, h⟩ := u_known (C := RX10) (T := TX10) (N := 2) (n := 2) hts (fun w hw => gtIn (cl_lay 10 (by decide) w hw)) (hg w_cls10.1); exact ⟨(a, b), fun q hq => by cases hq; exact h⟩
    | 11 => obtain ⟨a, b, h⟩ := u_known (C := RX11) (T := TX11) (N := 16) (n := 16) hts (fun w hw => gtIn (cl_lay 11 (by decide) w hw)) (hg w_cls11.1); exact ⟨(a, b), fun q hq => by cases hq; exact h⟩
    | 12 => obtain ⟨a, b, h⟩ := u_known (C := RX12) (T := TX12) (N := 65) (n := 65) hts (fun w hw => gtIn (cl_lay 12 (by decide) w hw)) (hg w_cls12.1); exact ⟨(a, b), fun q hq => by cases hq; exact h⟩
    | c + 13 => exact ⟨((s.vm.findClass "").getD default, fun _ => 0), fun q hq => by simp [vwCl] at hq⟩
  obtain ⟨D, hD⟩ := Classical.axiomOfChoice h0
  exact ⟨(fun c => (D c).1, fun c => (D c).2), hD⟩
theorem law_nw {args : Array Value} {s : State} (hts : ∀ w ∈ lw_tbl, w.before args s = true) : ∀ w ∈ nwL, va_Nw w s := by
  intro w hw
  simp only [nwL, List.mem_cons, List.not_mem_nil, or_false] at hw
  rcases hw with rfl | rfl | rfl | rfl | rfl | rfl | rfl | rfl | rfl | rfl | rfl | rfl | rfl | rfl | rfl | rfl
  · exact va_Nw.of rfl (hts _ (wIn (i := 1103) (by decide +kernel)))
  · exact va_Nw.of rfl (hts _ (wIn (i := 1120) (by decide +kernel)))
  · exact va_Nw.of rfl (hts _ (wIn (i := 1152) (by decide +kernel)))
  · exact va_Nw.of rfl (hts _ (wIn (i := 4041) (by decide +kernel)))
  · exact va_AO.of (hts _ (wIn (i := 1036) (by decide +kernel)))
  · exact va_AO.of (hts _ (wIn (i := 1100) (by decide +kernel)))
  · exact va_AO.of (hts _ (wIn (i := 1118) (by decide +kernel)))
  · exact va_Nw.of rfl (hts _ (wIn (i := 7044) (by decide +kernel)))
  · exact va_Nw.of rfl (hts _ (wIn (i := 7045) (by decide +kernel)))
  · exact va_Nw.of rfl (hts _ (wIn (i := 7046) (by decide +kernel)))
  · exact va_Nw.of rfl (hts _ (wIn (i := 7047) (by decide +kernel)))
  · exact va_Nw.of rfl (hts _ (wIn (i := 7048) (by decide +kernel)))
  · exact va_Nw.of rfl (hts _ (wIn (i := 7049) (by decide +kernel)))
  · exact va_Nw.of rfl (hts _ (wIn (i := 7050) (by decide +kernel)))
  · exact va_Nw.of rfl (hts _ (wIn (i := 7051) (by decide +kernel)))
  · exact va_Nw.of rfl (hts _ (wIn (i := 7052) (by decide +kernel)))
theorem law_ncB : (List.range 13).all (fun a => (List.range 13).all (fun b => !isFam a || !isFam b || Nat.beq b 3 || instB b a || decide (Cond.not (.castable (sAt cidx a) (sAt cidx b)) ∈ flatC (Jvm.Cond.and given_1 narrow_1)))) = true := by decide +kernel
theorem law_nc {args : Array Value} {s : State} (hs : ∀ w ∈ flatC (Jvm.Cond.and given_1 narrow_1), w.before args s = true) : ∀ a b : Nat, isFam a = true → isFam b = true → ¬ b = 3 → instB b a = false → va_Nc (sAt cidx a) (sAt cidx b) s := by
  intro a b ha hb h3 hi
  have h := List.all_eq_true.mp (List.all_eq_true.mp law_ncB a (List.mem_range.mpr (isFam_lt ha))) b (List.mem_range.mpr (isFam_lt hb))
  have h4 : Nat.beq b 3 = false := by
    cases hq : Nat.beq b 3 with
    | false => rfl
    | true => exact absurd (Nat.eq_of_beq_eq_true hq) h3
  rw [ha, hb, hi, h4] at h
  simp only [Bool.not_true, Bool.false_or, Bool.or_false, decide_eq_true_eq] at h
  exact va_Nc.of (hs _ h)
def strT : Nat → Term := fun i => .string RX5 (([76, 82, 102, 104, 106, 107] : List Nat).getD i 0)
abbrev strLen : List Nat := [6, 3, 3, 4, 4, 4]
abbrev strByt : List (List Int32) := [[104, 107, 115, 103, 116, 119], [60, 61, 62], [102, 117, 110], [115, 111, 117, 114], [100, 97, 121, 115], [102, 97, 99, 101]]
abbrev fl1 : List Cond := flatC (Jvm.Cond.and given_1 narrow_1)
theorem law_strB : (List.range 6).all (fun i => decide (Cond.exactly (strT i) "java/lang/String" ∈ fl1) && decide (Cond.eq (.field (strT i) "java/lang/String" "coder" "B") (.int 0) ∈ fl1) && decide (Cond.arrayOf (.field (strT i) "java/lang/String" "value" "[B") .byte ∈ fl1) && decide (Cond.eq (.length (.field (strT i) "java/lang/String" "value" "[B")) (.int (Int32.ofNat (strLen.getD i 0))) ∈ fl1)
    && (List.range (strLen.getD i 0)).all (fun j => decide (Cond.eq (.elem (.field (strT i) "java/lang/String" "value" "[B") (.int (Int32.ofNat j))) (.int ((strByt.getD i []).getD j 0)) ∈ fl1)) && (List.range 6).all (fun j => Nat.beq i j || decide (Cond.not (Cond.eq (strT i) (strT j)) ∈ fl1) || decide (Cond.not (Cond.eq (strT j) (strT i)) ∈ fl1))) = true := by decide +kernel
theorem law_str {args : Array Value} {s : State} {A : Nat → Prop} (hs : ∀ w ∈ fl1, w.before args s = true) (hA : ∀ a : Nat, a < s.heap.size → ¬ A a) : ∃ adK adV : Nat → Nat, vk_S 6 strLen strByt adK adV A s s.heap ∧ ∀ i : Nat, i < 6 → (strT i).eval args s none [] s = some (.ref (adK i)) := by
  have h := fun i (hi : i < 6) => List.all_eq_true.mp law_strB i (List.mem_range.mpr hi)
  simp only [Bool.and_eq_true, decide_eq_true_eq] at h
  refine vk_Sof ?_ (fun i hi => hs _ (h i hi).1.1.1.1.1) (fun i hi => hs _ (h i hi).1.1.1.1.2) (fun i hi => hs _ (h i hi).1.1.1.2) (fun i hi => hs _ (h i hi).1.1.2) (fun i hi j hj => hs _ (of_decide_eq_true (List.all_eq_true.mp (h i hi).1.2 j (List.mem_range.mpr hj)))) (fun i j hi hj hij => ?_) hA
  · intro i hi
    match i, hi with
    | 0, _ => decide
    | 1, _ => decide
    | 2, _ => decide
    | 3, _ => decide
    | 4, _ => decide
    | 5, _ => decide
    | i + 6, hi => exact absurd hi (by omega)
  · have g := List.all_eq_true.mp (h i hi).2 j (List.mem_range.mpr hj)
    simp only [Bool.or_eq_true, decide_eq_true_eq] at g
    rcases g with (g | g) | g
    · exact absurd (Nat.eq_of_beq_eq_true g) hij
    · exact Or.inl (hs _ g)
    · exact Or.inr (hs _ g)
theorem law_vkR {args : Array Value} {s : State} {adK : Nat → Nat} (hts : ∀ w ∈ lw_tbl, w.before args s = true) (hev : ∀ i : Nat, i < 6 → (strT i).eval args s none [] s = some (.ref (adK i))) : ∀ q ∈ strL, vk_R RX5 q.1 q.2.1 (adK (q.2.2 - 1)) s := by
  intro q hq
  simp only [strL, List.mem_cons, List.not_mem_nil, or_false] at hq
  rcases hq with rfl | rfl | rfl | rfl | rfl | rfl
  · exact vk_R.of (hts _ (wIn (i := 3063) (by decide +kernel))) (hev 0 (by decide))
  · exact vk_R.of (hts _ (wIn (i := 3068) (by decide +kernel))) (hev 1 (by decide))
  · exact vk_R.of (hts _ (wIn (i := 2216) (by decide +kernel))) (hev 2 (by decide))
  · exact vk_R.of (hts _ (wIn (i := 2217) (by decide +kernel))) (hev 3 (by decide))
  · exact vk_R.of (hts _ (wIn (i := 2218) (by decide +kernel))) (hev 4 (by decide))
  · exact vk_R.of (hts _ (wIn (i := 2219) (by decide +kernel))) (hev 5 (by decide))
/-- the first picture: nothing but the script and the text constants -/
abbrev sg0 : Hp := [spC, spC, spC, spC, spC, spC, spC]
theorem wf_sg0 : wfH sg0 := by
  refine ⟨fun k hk => ?_, fun k c hc => ?_⟩
  · match k, hk with
    | 0, _ => rfl
    | 1, _ => rfl
    | 2, _ => rfl
    | 3, _ => rfl
    | 4, _ => rfl
    | 5, _ => rfl
    | 6, _ => rfl
    | k + 7, h => exact absurd h (by omega)
  · have key : ∀ c : VC, c = spC → wfC 7 c := fun c h => by subst h; exact ⟨Or.inr rfl, fun v hv => absurd hv List.not_mem_nil⟩
    match k, hc with
    | 0, h => cases h; exact key _ rfl
    | 1, h => cases h; exact key _ rfl
    | 2, h => cases h; exact key _ rfl
    | 3, h => cases h; exact key _ rfl
    | 4, h => cases h; exact key _ rfl
    | 5, h => cases h; exact key _ rfl
    | 6, h => cases h; exact key _ rfl
    | k + 7, h => cases h
set_option maxHeartbeats 4000000 in
theorem law_of {p : Program} {e : Env} {s : State} {m : MethodId} {below : List Frame} {meth : Method} {c : Code} (l : Launch) {b L : Nat} {xs : Nat → Int32} (C0 : lw_At p s m meth c b L xs) (d : Nat) (hd1 : d + 4 ≤ 2048) (hd2 : 64 * d + 128 ≤ 84000)
    (hwp : Wp mi_law (Ev d) (some (L, xs)) (600000, 7302250) (fun v _ => v = some (.int 1)) (0, entL [.ref 0] 4, [], sg0, 0, 0)) : W p l e room_1 s m #[Value.ref b] below meth c s.heap [] 0 0 (lw_Z below #[Value.ref b] s) (entryFrame m ([Value.ref b] : List Value).toArray 4) := by
  obtain ⟨hx, hb, hr, hml, hown, hts, hX, hbl, hlocks, hgv⟩ := id C0
  have hs := flat_of_before _ hgv
  have hnA : ∀ a : Nat, a < s.heap.size → ¬ (fun q : Nat => s.heap.size ≤ q) a := fun a h => Nat.not_le.mpr h
  obtain ⟨tA, htA⟩ := law_tA hts
  obtain ⟨D, hD⟩ := law_D hts
  obtain ⟨adK, adV, hK, hev⟩ := law_str (A := fun q : Nat => s.heap.size ≤ q) hs hnA
  obtain ⟨ad, had0, hadS⟩ : ∃ ad : Nat → Nat, ad 0 = b ∧ ∀ i, ad (i + 1) = adK i := ⟨fun k => match k with
    | 0 => b
    | i + 1 => adK i, rfl, fun _ => rfl⟩
  have hC : Cxt D tA ad s := by
    refine ⟨⟨hD, htA⟩, law_nw hts, law_nc hs, fun q hq => ?_⟩
    have h1 := law_vkR hts hev q hq
    have h2 : ad q.2.2 = adK (q.2.2 - 1) := by
      simp only [strL, List.mem_cons, List.not_mem_nil, or_false] at hq
      rcases hq with rfl | rfl | rfl | rfl | rfl | rfl <;> exact hadS _
    rw [h2]
    exact h1
  have hSx : Sx ad (fun q : Nat => s.heap.size ≤ q) s s.heap := by
    refine ⟨⟨adV, ?_⟩, ?_, ?_⟩
    · have h1 : (fun i => ad (i + 1)) = adK := funext hadS
      rw [h1]
      exact hK
    · exact va_Zof (args := #[Value.ref b]) (hts _ (wIn (i := 2233) (by decide +kernel))) (hts _ (gtIn wj_n_RJ0)) (va_eqt (hs _ (by decide +kernel))) hnA
    · exact va_Zqof (args := #[Value.ref b]) (hts _ (wIn (i := 3013) (by decide +kernel))) (hts _ (gtIn wj_n_RJ3)) (hs _ (by decide +kernel)) hnA
  have hE : Env0 p l room_1 s m #[Value.ref b] meth c D tA (fun q : Nat => s.heap.size ≤ q) code 4 ad 7 lw_tbl RL yL_law (some (L, xs)) :=
    ⟨hx, hb, hml, hown, hts, fun w hw => gtIn hw, fun q hq => hq, hC, Nat.le_refl _, fun z => absurd z (by decide), hSx, ⟨Nat.le_of_ble_eq_true rfl, Nat.le_of_ble_eq_true rfl⟩, fun n g z => by cases z; rw [had0]; exact ⟨hX, hbl, Nat.not_le.mpr hbl⟩⟩
  have hret : RetH p l e room_1 s m #[Value.ref b] below meth c (lw_Z below #[Value.ref b] s) D tA (fun q : Nat => s.heap.size ≤ q) code 4 ad 7 (some .boolean) (fun v _ => v = some (.int 1)) (600000, 7302250) := by
    intro ad' ls H locs L' st σ' pc cn sn hsim hcn hsn
    refine ⟨fun x hx' hro hp hdg => ?_, fun x hx' hro hp hdg => (by cases hp), fun v hx' hvr hro hp hdg => ?_, fun hx' hro hp hdg => (by cases hp)⟩
    · cases hp
      exact va_forget (fun q hq => hsim.hS.2.2 q hq) (W.widen (k := 600000) (n := 7302250) hcn hsn (lw_ret hx hb hr hlocks hdg))
    · cases hp
      rcases hvr with ⟨a, h⟩ | h <;> cases h
  have hlen : (lg_sl ([.ref 0] : List Value)).length ≤ 4 := Nat.le_of_ble_eq_true rfl
  have hent := lv_entry ([.ref b] : List Value) (n := 4) (Nat.le_of_ble_eq_true rfl)
  rw [lg_entry_eq]
  refine wp_go (M := mi_law) (bd := (600000, 7302250)) (Q := _) hE (Ev.mono d) (ev_sound d l room_1 hd1 hd2) ⟨rfl, rfl⟩ hret ok_law ex_law ⟨Nat.zero_le _, Nat.zero_le _⟩ hwp ad _ s.heap [] ⟨fun _ _ => rfl, Nat.le_refl _, wf_sg0, fun i v hv => ?_, fun _ hv => absurd hv List.not_mem_nil, entL_len _ _ hlen, ⟨hent.1, hent.2.1, fun i v hv => ?_⟩, fun k q h => (by cases h), ⟨fun i j p q h => (by cases h), fun k q h => (by cases h)⟩, va_S.rf⟩
  · have h1 := lv_args_mem _ 0 _ v (entL_get _ _ 0 i v hv)
    rw [List.mem_singleton.mp h1]
    exact wfV.ref (by decide)
  · have h1 := entL_get [.ref 0] _ 0 i v hv
    rw [Nat.zero_add] at h1
    have h2 := hent.2.2 (i, ph ad v) (lv_args_map ad [.ref 0] 0 i v h1 |> fun z => by rw [show ([Value.ref 0].map (ph ad)) = [Value.ref b] from by rw [List.map_cons, List.map_nil]; show [Value.ref (ad 0)] = _; rw [had0]] at z; exact z)
    exact h2
