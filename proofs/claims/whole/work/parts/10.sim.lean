/-! SIM: a picture of part 03 and the machine's heap: the same, by an address for each place -/
theorem gH_eq : ∀ (σ : Hp) (k : Nat), gH σ k = σ[k]?
  | [], _ => rfl
  | _ :: _, 0 => rfl
  | _ :: r, n + 1 => by rw [gH, gH_eq r n, List.getElem?_cons_succ]
theorem sH_eq : ∀ (σ : Hp) (k : Nat) (v : VC), sH σ k v = σ.set k v
  | [], _, _ => rfl
  | _ :: _, 0, _ => rfl
  | o :: r, n + 1, v => by rw [sH, sH_eq r n, List.set_cons_succ]
theorem gV_eq : ∀ (σ : List Value) (k : Nat), gV σ k = σ[k]?
  | [], _ => rfl
  | _ :: _, 0 => rfl
  | _ :: r, n + 1 => by rw [gV, gV_eq r n, List.getElem?_cons_succ]
theorem sV_eq : ∀ (σ : List Value) (k : Nat) (v : Value), sV σ k v = σ.set k v
  | [], _, _ => rfl
  | _ :: _, 0, _ => rfl
  | o :: r, n + 1, v => by rw [sV, sV_eq r n, List.set_cons_succ]
theorem sH_len (σ : Hp) (k : Nat) (v : VC) : (sH σ k v).length = σ.length := by rw [sH_eq, List.length_set]
theorem sL_len : ∀ (L : Lc) (i : Nat) (o : Option Value), (sL L i o).length = L.length
  | [], _, _ => rfl
  | _ :: _, 0, _ => rfl
  | _ :: r, n + 1, o => by rw [sL, List.length_cons, sL_len r n, List.length_cons]
theorem gL_sL : ∀ (L : Lc) (i : Nat) (o : Option Value) (j : Nat), i < L.length → gL (sL L i o) j = if j = i then o else gL L j
  | [], _, _, _, h => absurd h (Nat.not_lt_zero _)
  | a :: r, 0, o, 0, _ => by rw [if_pos rfl]; rfl
  | a :: r, 0, o, j + 1, _ => by rw [if_neg (Nat.succ_ne_zero j)]; rfl
  | a :: r, n + 1, o, 0, _ => by rw [if_neg (Nat.zero_ne_add_one n)]; rfl
  | a :: r, n + 1, o, j + 1, h => by
    have h1 := gL_sL r n o j (Nat.lt_of_succ_lt_succ h)
    simp only [sL, gL, Nat.add_right_cancel_iff]
    exact h1
theorem cL_len (L : Lc) (i : Nat) : (cL L i).length = L.length := by
  unfold cL
  split
  · rfl
  · split <;> first | rfl | exact sL_len _ _ _
theorem gL_none : ∀ (L : Lc) (j : Nat), L.length ≤ j → gL L j = none
  | [], _, _ => rfl
  | _ :: _, 0, h => absurd h (by simp)
  | _ :: r, n + 1, h => gL_none r n (Nat.le_of_succ_le_succ h)
theorem gL_lt {L : Lc} {j : Nat} {v : Value} (h : gL L j = some v) : j < L.length := by
  rcases Nat.lt_or_ge j L.length with q | q
  · exact q
  · rw [gL_none L j q] at h; cases h
theorem gL_cL {L : Lc} {i j : Nat} {v : Value} (h : gL (cL L i) j = some v) : gL L j = some v ∧ ¬ (j + 1 = i ∧ v.category = 2) := by
  unfold cL at h
  split at h
  · exact ⟨h, fun q => absurd q.1 (Nat.succ_ne_zero j)⟩
  · rename_i n
    have key : ∀ w : Value, gL L n = some w → gL (sL L n none) j = some v → gL L j = some v ∧ ¬ (j + 1 = n + 1 ∧ v.category = 2) := by
      intro w hw hz
      rw [gL_sL L n none j (gL_lt hw)] at hz
      split at hz
      · cases hz
      · rename_i hne
        exact ⟨hz, fun q => hne (Nat.succ.inj q.1)⟩
    split at h
    · rename_i hw; exact key _ hw h
    · rename_i hw; exact key _ hw h
    · rename_i h1 h2
      refine ⟨h, fun q => ?_⟩
      obtain ⟨q1, q2⟩ := q
      have q3 : j = n := Nat.succ.inj q1
      subst q3
      cases v with
      | long x => exact h1 x h
      | double x => exact h2 x h
      | _ => simp [Value.category] at q2
def ph (ad : Nat → Nat) : Value → Value
  | .ref a => .ref (ad a)
  | .int x => .int x
  | .long x => .long x
  | .float x => .float x
  | .double x => .double x
  | .null => .null
  | .retAddr x => .retAddr x
def aP (ad : Nat → Nat) : vp_A → vp_A
  | (n, .inl f) => (n, .inl f)
  | (n, .inr (.inl f)) => (n, .inr (.inl f))
  | (n, .inr (.inr (.inl f))) => (n, .inr (.inr (.inl f)))
  | (n, .inr (.inr (.inr (.inl f)))) => (n, .inr (.inr (.inr (.inl f))))
  | (n, .inr (.inr (.inr (.inr f)))) => (n, .inr (.inr (.inr (.inr (fun i => (f i).map ad)))))
def cP (ad : Nat → Nat) (tA : FieldType → ClassId) : VC → va_E
  | .inl (ty, a) => .inl (tA ty, aP ad a)
  | .inr (ci, fs) => .inr (ci, fs.map (ph ad))
def wsp (ad : Nat → Nat) (tA : FieldType → ClassId) (σ : Hp) : va_W := (σ.drop 7).mapIdx (fun i c => (ad (i + 7), cP ad tA c))
theorem wsp_at (ad : Nat → Nat) (tA : FieldType → ClassId) (σ : Hp) (i : Nat) : (wsp ad tA σ)[i]? = (gH σ (i + 7)).map (fun c => (ad (i + 7), cP ad tA c)) := by
  rw [wsp, List.getElem?_mapIdx, List.getElem?_drop, gH_eq, Nat.add_comm 7 i]
theorem wsp_get {ad : Nat → Nat} {tA : FieldType → ClassId} {σ : Hp} {k : Nat} {c : VC} (h : gH σ k = some c) (hk : 7 ≤ k) : (wsp ad tA σ)[k - 7]? = some (ad k, cP ad tA c) := by
  rw [wsp_at, Nat.sub_add_cancel hk, h]; rfl
theorem wsp_len (ad : Nat → Nat) (tA : FieldType → ClassId) (σ : Hp) : (wsp ad tA σ).length = σ.length - 7 := by
  rw [wsp, List.length_mapIdx, List.length_drop]
theorem wsp_set {ad : Nat → Nat} {tA : FieldType → ClassId} {σ : Hp} {k : Nat} (c : VC) (hk : 7 ≤ k) : wsp ad tA (sH σ k c) = (wsp ad tA σ).set (k - 7) (ad k, cP ad tA c) := by
  apply List.ext_getElem?
  intro i
  rw [wsp_at, gH_eq, sH_eq, List.getElem?_set, List.getElem?_set, wsp_len, wsp_at, gH_eq]
  by_cases hi : k = i + 7
  · have hi2 : k - 7 = i := by omega
    rw [if_pos hi, if_pos hi2]
    by_cases hl : k < σ.length
    · rw [if_pos hl, if_pos (by omega)]
      subst hi; rfl
    · rw [if_neg hl, if_neg (by omega)]; rfl
  · rw [if_neg hi, if_neg (by omega)]
theorem wsp_push {ad : Nat → Nat} {tA : FieldType → ClassId} {σ : Hp} (c : VC) (hk : 7 ≤ σ.length) : wsp ad tA (σ ++ [c]) = wsp ad tA σ ++ [(ad σ.length, cP ad tA c)] := by
  apply List.ext_getElem?
  intro i
  rw [wsp_at, gH_eq]
  rcases Nat.lt_trichotomy (i + 7) σ.length with h | h | h
  · rw [List.getElem?_append_left h, List.getElem?_append_left (by rw [wsp_len]; omega), wsp_at, gH_eq]
  · rw [List.getElem?_append_right (by omega), List.getElem?_append_right (by rw [wsp_len]; omega), wsp_len]
    rw [show i + 7 - σ.length = 0 by omega, show i - (σ.length - 7) = 0 by omega, h]; rfl
  · rw [List.getElem?_append_right (by omega), List.getElem?_append_right (by rw [wsp_len]; omega), wsp_len]
    rw [List.getElem?_eq_none (by simp; omega), List.getElem?_eq_none (by simp; omega)]; rfl
/-- no address leads beyond the heap -/
def wfV (n : Nat) (v : Value) : Prop := ∀ a, v = .ref a → a < n
def wfA (n : Nat) : vp_A → Prop
  | (_, .inr (.inr (.inr (.inr g)))) => ∀ i a, g i = some a → a < n
  | _ => True
def tyT : List FieldType := [.int, .byte, .boolean, .long, .object RX3, .object RX5, .object RX8]
def wfC (n : Nat) : VC → Prop
  | .inl (ty, a) => (∃ t : Nat, tyT[t]? = some ty) ∧ wfA n a
  | .inr (ci, fs) => (ci < 13 ∨ ci = 999) ∧ ∀ v ∈ fs, wfV n v
def wfH (σ : Hp) : Prop := (∀ k, k < 7 → gH σ k = some (.inr (999, []))) ∧ ∀ k c, gH σ k = some c → wfC σ.length c
def wfL (n : Nat) (L : Lc) : Prop := ∀ i v, gL L i = some v → wfV n v
def wfS (n : Nat) (st : List Value) : Prop := ∀ v ∈ st, wfV n v
theorem wfV.int {n : Nat} {x : Int32} : wfV n (.int x) := fun _ h => by cases h
theorem wfV.long {n : Nat} {x : Int64} : wfV n (.long x) := fun _ h => by cases h
theorem wfV.null {n : Nat} : wfV n .null := fun _ h => by cases h
theorem wfV.ref {n a : Nat} (h : a < n) : wfV n (.ref a) := fun _ q => by cases q; exact h
theorem wfV.le {n m : Nat} {v : Value} (h : n ≤ m) (hv : wfV n v) : wfV m v := fun a q => Nat.lt_of_lt_of_le (hv a q) h
theorem wfA.le {n m : Nat} {a : vp_A} (h : n ≤ m) (ha : wfA n a) : wfA m a := by
  obtain ⟨k, f | f | f | f | f⟩ := a
  · trivial
  · trivial
  · trivial
  · trivial
  · exact fun i b q => Nat.lt_of_lt_of_le (ha i b q) h
theorem wfC.le {n m : Nat} {c : VC} (h : n ≤ m) (hc : wfC n c) : wfC m c := by
  obtain ⟨ty, a⟩ | ⟨ci, fs⟩ := c
  · exact ⟨hc.1, wfA.le h hc.2⟩
  · exact ⟨hc.1, fun v hv => (hc.2 v hv).le h⟩
theorem wfS.le {n m : Nat} {st : List Value} (h : n ≤ m) (hs : wfS n st) : wfS m st := fun v hv => (hs v hv).le h
theorem wfL.le {n m : Nat} {L : Lc} (h : n ≤ m) (hs : wfL n L) : wfL m L := fun i v hv => (hs i v hv).le h
theorem wfS.cons {n : Nat} {v : Value} {st : List Value} : wfS n (v :: st) ↔ wfV n v ∧ wfS n st := List.forall_mem_cons
theorem wfS.push {n : Nat} {v : Value} {st : List Value} (hv : wfV n v) (hs : wfS n st) : wfS n (v :: st) := wfS.cons.mpr ⟨hv, hs⟩
theorem wfS.pop {n : Nat} {v : Value} {st : List Value} (hs : wfS n (v :: st)) : wfS n st := (wfS.cons.mp hs).2
theorem wfS.top {n : Nat} {v : Value} {st : List Value} (hs : wfS n (v :: st)) : wfV n v := (wfS.cons.mp hs).1
theorem wfS.app {n : Nat} {a b : List Value} (ha : wfS n a) (hb : wfS n b) : wfS n (a ++ b) := fun v hv => (List.mem_append.mp hv).elim (ha v) (hb v)
theorem wfH.len {σ : Hp} (h : wfH σ) : 7 ≤ σ.length := by
  rcases Nat.lt_or_ge 6 σ.length with q | q
  · exact q
  · have h1 := h.1 6 (by decide)
    rw [gH_eq, List.getElem?_eq_none q] at h1
    cases h1
theorem gH_lt {σ : Hp} {k : Nat} {c : VC} (h : gH σ k = some c) : k < σ.length := by
  rw [gH_eq] at h
  exact (List.getElem?_eq_some_iff.mp h).1
theorem wfH.ge_arr {σ : Hp} (h : wfH σ) {k : Nat} {a : FieldType × vp_A} (hk : gH σ k = some (.inl a)) : 7 ≤ k := by
  rcases Nat.lt_or_ge k 7 with q | q
  · rw [h.1 k q] at hk; cases hk
  · exact q
theorem wfH.ge_obj {σ : Hp} (h : wfH σ) {k ci : Nat} {fs : List Value} (hk : gH σ k = some (.inr (ci, fs))) (hc : ci < 13) : 7 ≤ k := by
  rcases Nat.lt_or_ge k 7 with q | q
  · rw [h.1 k q] at hk; cases hk; exact absurd hc (by decide)
  · exact q
theorem wfH.set {σ : Hp} (h : wfH σ) {k : Nat} {c : VC} (hk : 7 ≤ k) (hc : wfC σ.length c) : wfH (sH σ k c) := by
  refine ⟨fun j hj => ?_, fun j c' hj => ?_⟩
  · rw [gH_eq, sH_eq, List.getElem?_set_ne (by omega), ← gH_eq]
    exact h.1 j hj
  · rw [sH_len]
    rw [gH_eq, sH_eq, List.getElem?_set] at hj
    split at hj
    · split at hj
      · cases hj; exact hc
      · cases hj
    · exact h.2 j c' (by rw [gH_eq]; exact hj)
theorem wfH.push {σ : Hp} (h : wfH σ) {c : VC} (hc : wfC (σ.length + 1) c) : wfH (σ ++ [c]) := by
  have hl := h.len
  refine ⟨fun j hj => ?_, fun j c' hj => ?_⟩
  · rw [gH_eq, List.getElem?_append_left (by omega), ← gH_eq]
    exact h.1 j hj
  · rw [List.length_append, List.length_singleton]
    rw [gH_eq] at hj
    rcases Nat.lt_or_ge j σ.length with q | q
    · rw [List.getElem?_append_left q, ← gH_eq] at hj
      exact (h.2 j c' hj).le (Nat.le_succ _)
    · rw [List.getElem?_append_right q] at hj
      have h0 : j - σ.length < 1 := (List.getElem?_eq_some_iff.mp hj).1
      rw [show j - σ.length = 0 by omega] at hj
      cases hj; exact hc
theorem ph_ext {ad ad' : Nat → Nat} {n : Nat} (h : ∀ k, k < n → ad' k = ad k) {v : Value} (hv : wfV n v) : ph ad' v = ph ad v := by
  cases v with
  | ref a => show Value.ref (ad' a) = Value.ref (ad a); rw [h a (hv a rfl)]
  | _ => rfl
theorem phS_ext {ad ad' : Nat → Nat} {n : Nat} (h : ∀ k, k < n → ad' k = ad k) {st : List Value} (hs : wfS n st) : st.map (ph ad') = st.map (ph ad) := List.map_congr_left fun v hv => ph_ext h (hs v hv)
theorem cP_ext {ad ad' : Nat → Nat} {tA : FieldType → ClassId} {n : Nat} (h : ∀ k, k < n → ad' k = ad k) {c : VC} (hc : wfC n c) : cP ad' tA c = cP ad tA c := by
  obtain ⟨ty, k, f | f | f | f | f⟩ | ⟨ci, fs⟩ := c
  · rfl
  · rfl
  · rfl
  · rfl
  · have e : (fun i => (f i).map ad') = (fun i => (f i).map ad) := by
      funext i
      cases hf : f i with
      | none => rfl
      | some a => show some (ad' a) = some (ad a); rw [h a (hc.2 i a hf)]
    show Sum.inl (tA ty, (k, Sum.inr (Sum.inr (Sum.inr (Sum.inr (fun i => (f i).map ad')))))) = Sum.inl (tA ty, (k, Sum.inr (Sum.inr (Sum.inr (Sum.inr (fun i => (f i).map ad))))))
    rw [e]
  · show Sum.inr (ci, fs.map (ph ad')) = Sum.inr (ci, fs.map (ph ad))
    rw [phS_ext h hc.2]
theorem wsp_ext {ad ad' : Nat → Nat} {tA : FieldType → ClassId} {σ : Hp} (hw : wfH σ) (h : ∀ k, k < σ.length → ad' k = ad k) : wsp ad' tA σ = wsp ad tA σ := by
  apply List.ext_getElem?
  intro i
  rw [wsp_at, wsp_at]
  cases hg : gH σ (i + 7) with
  | none => rfl
  | some c =>
    show some (ad' (i + 7), cP ad' tA c) = some (ad (i + 7), cP ad tA c)
    rw [h _ (gH_lt hg), cP_ext h (hw.2 _ _ hg)]
def tyL (tA : FieldType → ClassId) : List (ClassId × FieldType) := tyT.map (fun ty => (tA ty, ty))
theorem tyL_at {tA : FieldType → ClassId} {t : Nat} {ty : FieldType} (h : tyT[t]? = some ty) : (tyL tA)[t]? = some (tA ty, ty) := by
  rw [tyL, List.getElem?_map, h]; rfl
/-- what the tables say in every state of a run -/
def Cxt (D : va_G) (tA : FieldType → ClassId) (ad : Nat → Nat) (U : State) : Prop :=
  va_K D vwCl (tyL tA) U ∧ (∀ w ∈ nwL, va_Nw w U) ∧ (∀ C T : Nat, isFam C = true → isFam T = true → ¬ T = 3 → instB T C = false → va_Nc (sAt cidx C) (sAt cidx T) U) ∧ (∀ q ∈ strL, vk_R RX5 q.1 q.2.1 (ad q.2.2) U)
theorem Cxt.moved {D : va_G} {tA : FieldType → ClassId} {ad : Nat → Nat} {s U : State} (hW : s.WarmedH U.vm) (h : Cxt D tA ad s) : Cxt D tA ad U := by
  obtain ⟨h1, h2, h3, h4⟩ := h
  refine ⟨va_K.moved hW.alike h1, fun w hw => ?_, fun C T q1 q2 q3 q4 => va_Nc.moved hW.alike (h3 C T q1 q2 q3 q4), fun q hq => vk_R.warm hW (h4 q hq)⟩
  have h5 := h2 w hw
  simp only [nwL, List.mem_cons, List.not_mem_nil, or_false] at hw
  rcases hw with rfl | rfl | rfl | rfl | rfl | rfl | rfl | rfl | rfl | rfl | rfl | rfl | rfl | rfl | rfl | rfl
  · exact va_Nw.warmM hW h5
  · exact va_Nw.warmM hW h5
  · exact va_Nw.warmM hW h5
  · exact va_Nw.warmM hW h5
  · exact va_AO.moved hW.alike h5
  · exact va_AO.moved hW.alike h5
  · exact va_AO.moved hW.alike h5
  all_goals exact va_Nw.warmC hW h5
theorem Cxt.ad {D : va_G} {tA : FieldType → ClassId} {ad ad' : Nat → Nat} {s : State} (ha : ∀ k, k < 7 → ad' k = ad k) (h : Cxt D tA ad s) : Cxt D tA ad' s := by
  obtain ⟨h1, h2, h3, h4⟩ := h
  refine ⟨h1, h2, h3, fun q hq => ?_⟩
  have h5 := h4 q hq
  simp only [strL, List.mem_cons, List.not_mem_nil, or_false] at hq
  rcases hq with rfl | rfl | rfl | rfl | rfl | rfl <;> (rw [ha _ (by decide)]; exact h5)
/-- the text constants, and the statics that their methods read, lie untouched -/
def Sx (ad : Nat → Nat) (A : Nat → Prop) (U : State) (H : Heap) : Prop :=
  (∃ adV : Nat → Nat, vk_S 6 [6, 3, 3, 4, 4, 4] [[104, 107, 115, 103, 116, 119], [60, 61, 62], [102, 117, 110], [115, 111, 117, 114], [100, 97, 121, 115], [102, 97, 99, 101]] (fun i => ad (i + 1)) adV A U H) ∧
  va_Z "java/lang/String" "COMPACT_STRINGS" "Z" (.int 1) A U H ∧ va_Zq "jdk/internal/util/Preconditions" "SIOOBE_FORMATTER" "Ljava/util/function/BiFunction;" A U H
theorem Sx.moved {ad : Nat → Nat} {A : Nat → Prop} {u U : State} {H : Heap} (hvm : u.vm.Alike U.vm) (h : Sx ad A u H) : Sx ad A U H := by
  obtain ⟨⟨adV, h1⟩, h2, h3⟩ := h
  exact ⟨⟨adV, h1.moved hvm⟩, h2.moved hvm, h3.moved hvm⟩
theorem Sx.kept {ad : Nat → Nat} {A : Nat → Prop} {U : State} {H H1 : Heap} (h : Sx ad A U H) (hq : ∀ a : Nat, a < H.size → ¬ A a → H1[a]? = H[a]?) : Sx ad A U H1 := by
  obtain ⟨⟨adV, h1⟩, h2, h3⟩ := h
  exact ⟨⟨adV, h1.kept hq⟩, h2.kept hq, h3.kept hq⟩
theorem Sx.narrow {ad : Nat → Nat} {A B : Nat → Prop} {U : State} {H : Heap} (h : Sx ad A U H) (hAB : ∀ q, B q → A q) : Sx ad B U H := by
  obtain ⟨⟨adV, h1⟩, h2, h3⟩ := h
  exact ⟨⟨adV, h1.narrow hAB⟩, h2.narrow hAB, h3.narrow hAB⟩
theorem Sx.ad {ad ad' : Nat → Nat} {A : Nat → Prop} {U : State} {H : Heap} (ha : ∀ k, k < 7 → ad' k = ad k) (h : Sx ad A U H) : Sx ad' A U H := by
  obtain ⟨⟨adV, h1⟩, h2, h3⟩ := h
  refine ⟨⟨adV, ?_⟩, h2, h3⟩
  refine ⟨fun i hi => ?_, fun i j hi hj e => h1.2 i j hi hj ?_⟩
  · have h4 := h1.1 i hi
    dsimp only at h4 ⊢
    rw [ha (i + 1) (by omega)]
    exact h4
  · dsimp only at e ⊢
    rw [ha (i + 1) (by omega), ha (j + 1) (by omega)] at e
    exact e
/-- the locals -/
def LH (ad : Nat → Nat) (ls : Array Slot) (nL : Nat) (L : Lc) : Prop := ls.size = nL ∧ lv_wf ls ∧ ∀ i v, gL L i = some v → ls[i]? = some (.val (ph ad v))
def lvOf (ad : Nat → Nat) (L : Lc) : List (Nat × Value) := (List.range L.length).filterMap (fun i => (gL L i).map (fun v => (i, ph ad v)))
theorem lvOf_mem {ad : Nat → Nat} {L : Lc} {q : Nat × Value} : q ∈ lvOf ad L ↔ ∃ v, gL L q.1 = some v ∧ q.2 = ph ad v := by
  simp only [lvOf, List.mem_filterMap, List.mem_range]
  constructor
  · rintro ⟨i, hi, h⟩
    cases hg : gL L i with
    | none => rw [hg] at h; cases h
    | some v => rw [hg] at h; cases h; exact ⟨v, hg, rfl⟩
  · rintro ⟨v, h1, h2⟩
    refine ⟨q.1, gL_lt h1, ?_⟩
    rw [h1]
    show some (q.1, ph ad v) = some q
    rw [← h2]
theorem LH.has {ad : Nat → Nat} {ls : Array Slot} {nL : Nat} {L : Lc} (h : LH ad ls nL L) : lv_has ls nL (lvOf ad L) := by
  refine ⟨h.1, h.2.1, fun q hq => ?_⟩
  obtain ⟨v, h1, h2⟩ := lvOf_mem.mp hq
  rw [h2]
  exact h.2.2 _ _ h1
theorem ph_cat (ad : Nat → Nat) (v : Value) : (ph ad v).category = v.category := by cases v <;> rfl
theorem LH.store {ad : Nat → Nat} {ls : Array Slot} {nL : Nat} {L : Lc} {i : Nat} {v : Value} (hi : i < L.length) (h : lv_has ls nL ((i, ph ad v) :: (lvOf ad L).filter (fun q => !(q.1 == i) && !(q.1 + 1 == i && q.2.category == 2)))) : LH ad ls nL (sL (cL L i) i (some v)) := by
  refine ⟨h.1, h.2.1, fun j w hj => ?_⟩
  rw [gL_sL _ _ _ _ (by rw [cL_len]; exact hi)] at hj
  split at hj
  · rename_i e
    subst e
    cases hj
    exact h.2.2 (_, _) List.mem_cons_self
  · rename_i hne
    obtain ⟨h1, h2⟩ := gL_cL hj
    refine h.2.2 (j, ph ad w) (List.mem_cons_of_mem _ (List.mem_filter.mpr ⟨lvOf_mem.mpr ⟨w, h1, rfl⟩, ?_⟩))
    simp only [Bool.and_eq_true, Bool.not_eq_true', beq_eq_false_iff_ne, ne_eq, Bool.and_eq_false_iff, ph_cat]
    exact ⟨hne, by
      by_cases q : j + 1 = i
      · exact Or.inr (fun z => h2 ⟨q, z⟩)
      · exact Or.inl q⟩
theorem LH.ext {ad ad' : Nat → Nat} {ls : Array Slot} {nL n : Nat} {L : Lc} (h : LH ad ls nL L) (hw : wfL n L) (ha : ∀ k, k < n → ad' k = ad k) : LH ad' ls nL L :=
  ⟨h.1, h.2.1, fun i v hv => by rw [ph_ext ha (hw i v hv)]; exact h.2.2 i v hv⟩
theorem LH.kv {ad : Nat → Nat} {ls : Array Slot} {nL : Nat} {L : Lc} {i : Nat} {v : Value} (h : LH ad ls nL L) (hv : gL L i = some v) : ls[i]? = some (.val (ph ad v)) := h.2.2 i v hv
theorem gL_rep : ∀ (n i : Nat), gL (List.replicate n none) i = none
  | 0, _ => rfl
  | n + 1, 0 => rfl
  | n + 1, i + 1 => gL_rep n i
theorem entL_get : ∀ (vs : List Value) (n k : Nat) (i : Nat) (v : Value), gL (entL vs n) i = some v → (k + i, v) ∈ lv_args k vs
  | [], n, k, i, v, h => by rw [entL, gL_rep] at h; cases h
  | w :: vs, 0, k, i, v, h => by cases h
  | w :: vs, n + 1, k, 0, v, h => by cases h; exact List.mem_cons_self
  | w :: vs, n + 1, k, i + 1, v, h => by
    refine List.mem_cons_of_mem _ ?_
    simp only [entL, gL] at h
    cases hc : Nat.beq w.category 2 with
    | true =>
      rw [hc] at h
      rw [if_pos (Nat.eq_of_beq_eq_true hc)]
      cases i with
      | zero => cases h
      | succ i =>
        have := entL_get vs (n - 1) (k + 2) i v h
        rwa [show k + 2 + i = k + (i + 1 + 1) by omega] at this
    | false =>
      rw [hc] at h
      rw [if_neg (fun z => by rw [z] at hc; cases hc)]
      have := entL_get vs n (k + 1) i v h
      rwa [show k + 1 + i = k + (i + 1) by omega] at this
theorem entL_len : ∀ (vs : List Value) (n : Nat), (lg_sl vs).length ≤ n → (entL vs n).length = n
  | [], n, _ => List.length_replicate
  | w :: vs, 0, h => by
    exfalso
    simp only [lg_sl, List.flatMap_cons, List.length_append] at h
    split at h <;> simp at h
  | w :: vs, n + 1, h => by
    have h1 : (if w.category = 2 then [Slot.val w, .second] else [Slot.val w]).length + (lg_sl vs).length ≤ n + 1 := by
      simpa only [lg_sl, List.flatMap_cons, List.length_append] using h
    simp only [entL, List.length_cons]
    cases hc : Nat.beq w.category 2 with
    | true =>
      rw [if_pos (Nat.eq_of_beq_eq_true hc)] at h1
      simp only [List.length_cons, List.length_nil] at h1
      simp only [cond_true, List.length_cons]
      rw [entL_len vs (n - 1) (by omega)]
      omega
    | false =>
      rw [if_neg (fun z => by rw [z] at hc; cases hc)] at h1
      simp only [List.length_cons, List.length_nil] at h1
      simp only [cond_false]
      rw [entL_len vs n (by omega)]
