/-! SOUND: one step of the executor is a step of the machine -/
def wsM (M : MI) : List Cond := .code M.1 M.2.1 M.2.2.1 M.2.2.2.1 :: goodTbl
def PicS (D : va_G) (tA : FieldType → ClassId) (ad : Nat → Nat) (sz : Nat) (σ : Hp) (U : State) : Prop :=
  U.heap.size = sz ∧ Cxt D tA ad U ∧ va_P D vwCl (wsp ad tA σ) U.heap ∧ va_D (fun _ => True) (wsp ad tA σ) ∧ Sx ad (va_A (wsp ad tA σ) sz) U U.heap
def QcG (D : va_G) (tA : FieldType → ClassId) (ad : Nat → Nat) (σ : Hp) (A : Nat → Prop) (P : Option Value → Hp → Prop) : Array Value → State → Outcome → State → Prop := fun _ st oc t =>
  (∃ (v : Option Value) (σ' : Hp) (ad' : Nat → Nat), oc = .returned (v.map (ph ad')) ∧ P v σ' ∧ (∀ k, k < σ.length → ad' k = ad k) ∧ σ.length ≤ σ'.length ∧ wfH σ' ∧ (∀ x, v = some x → wfV σ'.length x) ∧ va_P D vwCl (wsp ad' tA σ') t.heap ∧ va_D A (wsp ad' tA σ')) ∧ va_F A st t
/-- the calls that a step may make have contracts that fit into the room -/
def CalOk (l : Launch) (R : Room) (cal : Cal) : Prop := ∀ (mi mc ms : Nat) (as : List Value) (σ : Hp) (P : Option Value → Hp → Prop), cal mi mc ms as σ P →
  ∃ (M : MI) (rm : Room), gM mths mi = some M ∧ rm.cells = mc ∧ rm.slots = ms ∧ rm.frames + 1 ≤ R.frames ∧ 8 + (M.2.2.1 + 11) + rm.locals ≤ R.locals ∧
    ∀ (D : va_G) (tA : FieldType → ClassId) (ad : Nat → Nat) (sz : Nat), wfH σ → wfS σ.length as →
      Met l M.1 (wsM M) rm (va_Pc (as.map (ph ad)) (PicS D tA ad sz σ)) (QcG D tA ad σ (va_A (wsp ad tA σ) sz) P) mc ms (va_A (wsp ad tA σ) sz)
theorem PicS.blind {D : va_G} {tA : FieldType → ClassId} {ad : Nat → Nat} {sz : Nat} {σ : Hp} {av : List Value} : FrameBlind (va_Pc av (PicS D tA ad sz σ)) := by
  intro a U g mk h
  obtain ⟨h1, h2, h3, h4, h5, h6⟩ := h
  exact ⟨h1, h2, h3.moved (State.WarmedH.refl U), h4, h5, h6.moved (Vm.Alike.refl U.vm)⟩
theorem gM_mem : ∀ {l : List MI} {k : Nat} {M : MI}, gM l k = some M → M ∈ l
  | [], _, _, h => by cases h
  | _ :: _, 0, _, h => by cases h; exact List.mem_cons_self
  | _ :: r, n + 1, _, h => List.mem_cons_of_mem _ (gM_mem (l := r) h)
/-- the words of a method -/
theorem mw_of {M : MI} (h : M ∈ mths) : Cond.code M.1 M.2.1 M.2.2.1 M.2.2.2.1 ∈ goodTbl ∧ Cond.initialized M.1.cls ∈ goodTbl ∧ M.2.2.2.2.1 = M.1.cls ∧ plainName M.1.cls = true ∧ M.2.2.1 ≤ 21 ∧ mOk M = true ∧ ∃ q, mwOne M q = true := by
  obtain ⟨h1, q, h2⟩ := mths_ok M h
  have h3 := h2
  simp only [mwOne, Bool.and_eq_true, decide_eq_true_eq] at h3
  exact ⟨wAt_ok h3.1.1.1.1.1, wAt_ok h3.1.1.1.1.2, h3.1.1.1.2, h3.1.1.2, Nat.le_of_ble_eq_true h3.1.2, h1, q, h2⟩
theorem cl_at : ∀ ci, ci < 13 → vwCl[ci]? = some (sAt cidx ci, tAt clT ci, nAt fldN ci) := by
  intro ci h
  match ci, h with
  | 0, _ => rfl
  | 1, _ => rfl
  | 2, _ => rfl
  | 3, _ => rfl
  | 4, _ => rfl
  | 5, _ => rfl
  | 6, _ => rfl
  | 7, _ => rfl
  | 8, _ => rfl
  | 9, _ => rfl
  | 10, _ => rfl
  | 11, _ => rfl
  | 12, _ => rfl
  | n + 13, h => exact absurd h (by omega)
theorem cl_lay : ∀ ci, ci < 13 → ∀ w ∈ u_ws (sAt cidx ci) (tAt clT ci) (nAt fldN ci), w ∈ goodTbl := by
  have key : ∀ (C : String) (T : u_T) (N : Nat) (ps : List Nat), (∀ k, k < N → wAt (nAt ps k) (u_lay C T k) = true) → ∀ w ∈ u_ws C T N, w ∈ goodTbl := by
    intro C T N ps h w hw
    obtain ⟨k, hk, rfl⟩ := List.mem_map.mp hw
    exact wAt_ok (h k (List.mem_range.mp hk))
  intro ci h
  match ci, h with
  | 0, _ => exact key _ _ _ _ w_lay0
  | 1, _ => exact key _ _ _ _ w_lay1
  | 2, _ => exact key _ _ _ _ w_lay2
  | 3, _ => exact key _ _ _ _ w_lay3
  | 4, _ => exact key _ _ _ _ w_lay4
  | 5, _ => exact key _ _ _ _ w_lay5
  | 6, _ => exact key _ _ _ _ w_lay6
  | 7, _ => exact key _ _ _ _ w_lay7
  | 8, _ => exact key _ _ _ _ w_lay8
  | 9, _ => exact key _ _ _ _ w_lay9
  | 10, _ => exact key _ _ _ _ w_lay10
  | 11, _ => exact key _ _ _ _ w_lay11
  | 12, _ => exact key _ _ _ _ w_lay12
  | n + 13, h => exact absurd h (by omega)
theorem cl_ty : ∀ ci, ci < 13 → ∀ k, k < nAt fldN ci → parseFieldDescriptor (tAt clT ci k).2.2.1 = some (ftyAt ftys ci k) := by
  intro ci h
  match ci, h with
  | 0, _ => exact tyX0_ok
  | 1, _ => exact tyX1_ok
  | 2, _ => exact tyX2_ok
  | 3, _ => exact tyX3_ok
  | 4, _ => exact tyX4_ok
  | 5, _ => exact tyX5_ok
  | 6, _ => exact tyX6_ok
  | 7, _ => exact tyX7_ok
  | 8, _ => exact tyX8_ok
  | 9, _ => exact tyX9_ok
  | 10, _ => exact tyX10_ok
  | 11, _ => exact tyX11_ok
  | 12, _ => exact tyX12_ok
  | n + 13, h => exact absurd h (by omega)
theorem cl_nm : ∀ ci, ci < 13 → ∀ a, a < nAt fldN ci → ∀ b, b < nAt fldN ci → a ≠ b → (tAt clT ci a).2.1 ≠ (tAt clT ci b).2.1 := by
  intro ci h
  match ci, h with
  | 0, _ => exact nmX0
  | 1, _ => exact nmX1
  | 2, _ => exact nmX2
  | 3, _ => exact nmX3
  | 4, _ => exact nmX4
  | 5, _ => exact nmX5
  | 6, _ => exact nmX6
  | 7, _ => exact nmX7
  | 8, _ => exact nmX8
  | 9, _ => exact nmX9
  | 10, _ => exact nmX10
  | 11, _ => exact nmX11
  | 12, _ => exact nmX12
  | n + 13, h => exact absurd h (by omega)
theorem isFam_lt : ∀ {c : Nat}, isFam c = true → c < 13 := by
  intro c h
  unfold isFam at h
  split at h <;> first | (cases h; done) | decide
theorem fam_B : (List.range 13).all (fun a => (List.range 13).all (fun ci => !isFam a || !isFam ci || (Nat.beq (nAt fldN a) 4 && Nat.beq (nAt fldN ci) 4 && (List.range 4).all (fun b => decide (tAt clT a b = tAt clT ci b) && decide (ftyAt ftys a b = ftyAt ftys ci b))))) = true := by decide +kernel
theorem fam_T : ∀ a, a < 13 → ∀ ci, ci < 13 → isFam a = true → isFam ci = true → nAt fldN a = 4 ∧ nAt fldN ci = 4 ∧ ∀ b, b < 4 → tAt clT a b = tAt clT ci b ∧ ftyAt ftys a b = ftyAt ftys ci b := by
  intro a ha ci hc h1 h2
  have h := List.all_eq_true.mp (List.all_eq_true.mp fam_B a (List.mem_range.mpr ha)) ci (List.mem_range.mpr hc)
  rw [h1, h2] at h
  simp only [Bool.not_true, Bool.false_or, Bool.and_eq_true] at h
  obtain ⟨⟨g1, g2⟩, g3⟩ := h
  refine ⟨Nat.eq_of_beq_eq_true g1, Nat.eq_of_beq_eq_true g2, fun b hb => ?_⟩
  have g4 := List.all_eq_true.mp g3 b (List.mem_range.mpr hb)
  simp only [Bool.and_eq_true, decide_eq_true_eq] at g4
  exact g4
theorem famB_T {a ci b : Nat} (ha : a < 13) (h : famB a ci = true) (hb : b < nAt fldN a) : ci < 13 ∧ b < nAt fldN ci ∧ tAt clT a b = tAt clT ci b ∧ ftyAt ftys a b = ftyAt ftys ci b := by
  simp only [famB, Bool.or_eq_true, Bool.and_eq_true] at h
  rcases h with h | ⟨h1, h2⟩
  · have := Nat.eq_of_beq_eq_true h
    subst this
    exact ⟨ha, hb, rfl, rfl⟩
  · have hc := isFam_lt h2
    obtain ⟨q1, q2, q3⟩ := fam_T a ha ci hc h1 h2
    rw [q1] at hb
    exact ⟨hc, by rw [q2]; exact hb, q3 b hb⟩
section SND
variable {p : Program} {l : Launch} {e : Env} {R : Room} {s : State} {m : MethodId} {args : Array Value} {below : List Frame} {meth : Method} {c : Code} {Q : State → Prop}
variable {D : va_G} {tA : FieldType → ClassId} {A : Nat → Prop} {cc : ByteArray} {nL : Nat} {ad0 : Nat → Nat} {n0 : Nat} {Ts : List Cond} {own : String}
/-- what the machine's frame and heap have to do with a picture -/
def Sim (s : State) (D : va_G) (tA : FieldType → ClassId) (A : Nat → Prop) (nL : Nat) (ad0 : Nat → Nat) (n0 : Nat) (ad : Nat → Nat) (ls : Array Slot) (H : Heap) (locs : List Loc) (L : Lc) (st : List Value) (σ : Hp) : Prop :=
  (∀ k, k < n0 → ad k = ad0 k) ∧ n0 ≤ σ.length ∧ wfH σ ∧ wfL σ.length L ∧ wfS σ.length st ∧ L.length = nL ∧ LH ad ls nL L ∧ va_P D vwCl (wsp ad tA σ) H ∧ va_D A (wsp ad tA σ) ∧ va_S A s.heap H locs
/-- from every machine that a picture is of, the walk goes on to Q -/
def XW (p : Program) (l : Launch) (e : Env) (R : Room) (s : State) (m : MethodId) (args : Array Value) (below : List Frame) (meth : Method) (c : Code) (Q : State → Prop) (D : va_G) (tA : FieldType → ClassId) (A : Nat → Prop) (nL : Nat) (ad0 : Nat → Nat) (n0 : Nat) : Cf → Prop := fun q =>
  ∀ (ad : Nat → Nat) (ls : Array Slot) (H : Heap) (locs : List Loc), Sim s D tA A nL ad0 n0 ad ls H locs q.2.1 q.2.2.1 q.2.2.2.1 → W p l e R s m args below meth c H locs q.2.2.2.2.1 q.2.2.2.2.2 Q (F0 m q.1 ls (q.2.2.1.map (ph ad)))
variable {ad : Nat → Nat} {ls : Array Slot} {H : Heap} {locs : List Loc} {L : Lc} {st st' : List Value} {σ : Hp}
theorem Sim.stk (h : Sim s D tA A nL ad0 n0 ad ls H locs L st σ) (hs : wfS σ.length st') : Sim s D tA A nL ad0 n0 ad ls H locs L st' σ := by
  obtain ⟨h1, h2, h3, h4, -, h6⟩ := h
  exact ⟨h1, h2, h3, h4, hs, h6⟩
theorem Sim.wst (h : Sim s D tA A nL ad0 n0 ad ls H locs L st σ) : wfS σ.length st := h.2.2.2.2.1
theorem Sim.wl (h : Sim s D tA A nL ad0 n0 ad ls H locs L st σ) : wfL σ.length L := h.2.2.2.1
theorem Sim.wh (h : Sim s D tA A nL ad0 n0 ad ls H locs L st σ) : wfH σ := h.2.2.1
theorem Sim.lh (h : Sim s D tA A nL ad0 n0 ad ls H locs L st σ) : LH ad ls nL L := h.2.2.2.2.2.2.1
theorem Sim.hP (h : Sim s D tA A nL ad0 n0 ad ls H locs L st σ) : va_P D vwCl (wsp ad tA σ) H := h.2.2.2.2.2.2.2.1
theorem Sim.hD (h : Sim s D tA A nL ad0 n0 ad ls H locs L st σ) : va_D A (wsp ad tA σ) := h.2.2.2.2.2.2.2.2.1
theorem Sim.hS (h : Sim s D tA A nL ad0 n0 ad ls H locs L st σ) : va_S A s.heap H locs := h.2.2.2.2.2.2.2.2.2
theorem Sim.store {ls' : Array Slot} {i : Nat} {v : Value} (h : Sim s D tA A nL ad0 n0 ad ls H locs L st σ) (hv : wfV σ.length v) (hs : wfS σ.length st') (hi : i < nL) (hl : lv_has ls' nL ((i, ph ad v) :: (lvOf ad L).filter (fun q => !(q.1 == i) && !(q.1 + 1 == i && q.2.category == 2)))) : Sim s D tA A nL ad0 n0 ad ls' H locs (sL (cL L i) i (some v)) st' σ := by
  obtain ⟨h1, h2, h3, h4, -, h6, h7, h8⟩ := h
  refine ⟨h1, h2, h3, fun j w hj => ?_, hs, by rw [sL_len, cL_len]; exact h6, LH.store (by rw [h6]; exact hi) hl, h8⟩
  rw [gL_sL _ _ _ _ (by rw [cL_len, h6]; exact hi)] at hj
  split at hj
  · cases hj; exact hv
  · exact h4 j w (gL_cL hj).1
/-- a cell is written: the picture's and the machine's -/
theorem Sim.write {H1 : Heap} {locs1 : List Loc} {k : Nat} {cv : VC} (h : Sim s D tA A nL ad0 n0 ad ls H locs L st σ) (hk : 7 ≤ k) (hw : wfC σ.length cv) (hs : wfS σ.length st')
    (hP : va_P D vwCl ((wsp ad tA σ).set (k - 7) (ad k, cP ad tA cv)) H1) (hD : va_D A ((wsp ad tA σ).set (k - 7) (ad k, cP ad tA cv))) (hS : va_S A s.heap H1 locs1) : Sim s D tA A nL ad0 n0 ad ls H1 locs1 L st' (sH σ k cv) := by
  obtain ⟨h1, h2, h3, h4, h5, h6, h7, h8⟩ := h
  exact ⟨h1, by rw [sH_len]; exact h2, h3.set hk hw, by rw [sH_len]; exact h4, by rw [sH_len]; exact hs, h6, h7, by rw [wsp_set cv hk]; exact hP, by rw [wsp_set cv hk]; exact hD, hS⟩
/-- a cell is made -/
theorem Sim.made {H1 : Heap} {locs1 : List Loc} {q : Nat} {cv : VC} (h : Sim s D tA A nL ad0 n0 ad ls H locs L st σ) (hw : wfC (σ.length + 1) cv) (hs : wfS σ.length st') (hq : cP (fun j => if j = σ.length then q else ad j) tA cv = cP ad tA cv)
    (hP : va_P D vwCl (wsp ad tA σ ++ [(q, cP ad tA cv)]) H1) (hD : va_D A (wsp ad tA σ ++ [(q, cP ad tA cv)])) (hS : va_S A s.heap H1 locs1) :
    Sim s D tA A nL ad0 n0 (fun j => if j = σ.length then q else ad j) ls H1 locs1 L (.ref σ.length :: st') (σ ++ [cv]) ∧ (Value.ref σ.length :: st').map (ph (fun j => if j = σ.length then q else ad j)) = .ref q :: st'.map (ph ad) := by
  obtain ⟨h1, h2, h3, h4, h5, h6, h7, h8⟩ := h
  have ha : ∀ k, k < σ.length → (fun j => if j = σ.length then q else ad j) k = ad k := fun k hk => if_neg (Nat.ne_of_lt hk)
  have hl : (σ ++ [cv]).length = σ.length + 1 := by rw [List.length_append, List.length_singleton]
  have hws : wsp (fun j => if j = σ.length then q else ad j) tA (σ ++ [cv]) = wsp ad tA σ ++ [(q, cP ad tA cv)] := by
    rw [wsp_push cv h3.len, wsp_ext h3 ha, hq]
    simp
  refine ⟨⟨fun k hk => (ha k (Nat.lt_of_lt_of_le hk h2)).trans (h1 k hk), by rw [hl]; omega, h3.push hw, by rw [hl]; exact h4.le (Nat.le_succ _), ?_, h6, h7.ext h4 ha, by rw [hws]; exact hP, by rw [hws]; exact hD, hS⟩, ?_⟩
  · rw [hl]
    exact wfS.push (wfV.ref (Nat.lt_succ_self _)) (hs.le (Nat.le_succ _))
  · rw [List.map_cons, phS_ext ha hs]
    show Value.ref (if σ.length = σ.length then q else ad σ.length) :: _ = _
    rw [if_pos rfl]
end SND
