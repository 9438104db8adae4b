/-! ONE STEP -/
/-- the answers -/
def RetH (p : Program) (l : Launch) (e : Env) (R : Room) (s : State) (m : MethodId) (args : Array Value) (below : List Frame) (meth : Method) (c : Code) (Q : State → Prop) (D : va_G) (tA : FieldType → ClassId) (A : Nat → Prop) (cc : ByteArray) (nL : Nat) (ad0 : Nat → Nat) (n0 : Nat) (ret : Option FieldType) (post : Option Value → Hp → Prop) (bd : Nat × Nat) : Prop :=
  ∀ (ad : Nat → Nat) (ls : Array Slot) (H : Heap) (locs : List Loc) (L : Lc) (st : List Value) (σ : Hp) (pc cn sn : Nat), Sim s D tA A nL ad0 n0 ad ls H locs L st σ → cn ≤ bd.1 → sn ≤ bd.2 →
    (∀ x, st = [.int x] → (∃ ty, ret = some ty ∧ narrow ty (.int x) = .int x) → post (some (.int x)) σ → decode cc pc = .ok (.ireturn, 1) → W p l e R s m args below meth c H locs cn sn Q (F0 m pc ls [.int x])) ∧
    (∀ x, st = [.long x] → rtL ret = true → post (some (.long x)) σ → decode cc pc = .ok (.lreturn, 1) → W p l e R s m args below meth c H locs cn sn Q (F0 m pc ls [.long x])) ∧
    (∀ v, st = [v] → ((∃ a, v = .ref a) ∨ v = .null) → rtA ret = true → post (some v) σ → decode cc pc = .ok (.areturn, 1) → W p l e R s m args below meth c H locs cn sn Q (F0 m pc ls [ph ad v])) ∧
    (st = [] → rtV ret = true → post none σ → decode cc pc = .ok (.return_, 1) → W p l e R s m args below meth c H locs cn sn Q (F0 m pc ls []))
theorem tsOk_in (pc : Nat) (lo : Int) {P : Nat → Prop} {d : Prop} {x : Int32} : ∀ (t : Nat) (os : List Int) (s : List (Int32 × Nat)), tsOk pc lo t os s = true → kS x d P s → (∀ j : Nat, j < t → ¬ x.toInt = lo + j) →
    (∃ (j : Nat) (o : Int) (g : Nat), os[j]? = some o ∧ x.toInt = lo + t + j ∧ (pc : Int) + o = (g : Int) ∧ P g) ∨ ((∀ j : Nat, j < t + os.length → ¬ x.toInt = lo + j) ∧ d)
  | t, [], [], _, hk, hn => Or.inr ⟨by simpa using hn, hk⟩
  | t, o :: os, (k, g) :: r, h, hk, hn => by
    simp only [tsOk, Bool.and_eq_true, decide_eq_true_eq] at h
    obtain ⟨⟨h1, h2⟩, h3⟩ := h
    by_cases hx : x = k
    · exact Or.inl ⟨0, o, g, rfl, by rw [hx, h1]; simp, h2, hk.1 hx⟩
    · have hx2 : ¬ x.toInt = lo + t := fun z => hx (Int32.toInt_inj.mp (by rw [h1]; exact z))
      rcases tsOk_in pc lo (t + 1) os r h3 (hk.2 hx) (fun j hj z => by
        rcases Nat.lt_or_ge j t with q | q
        · exact hn j q z
        · exact hx2 (by rw [show j = t by omega] at z; exact z)) with ⟨j, o2, g2, e1, e2, e3, e4⟩ | ⟨e1, e2⟩
      · exact Or.inl ⟨j + 1, o2, g2, e1, by rw [e2]; omega, e3, e4⟩
      · exact Or.inr ⟨fun j hj => e1 j (by rw [List.length_cons] at hj; omega), e2⟩
  | _, [], _ :: _, h, _, _ => by cases h
  | _, _ :: _, [], h, _, _ => by cases h
theorem lsOk_in (pc : Nat) {P : Nat → Prop} {d : Prop} {x : Int32} {df : Int} : ∀ (os : List (Int × Int)) (s : List (Int32 × Nat)), lsOk pc os s = true → kS x d P s →
    (∃ g : Nat, (pc : Int) + Op.lookupswitch.offset os df x.toInt = (g : Int) ∧ P g) ∨ (Op.lookupswitch.offset os df x.toInt = df ∧ d)
  | [], [], _, hk => Or.inr ⟨rfl, hk⟩
  | (a, o) :: os, (k, g) :: r, h, hk => by
    simp only [lsOk, Bool.and_eq_true, decide_eq_true_eq] at h
    obtain ⟨⟨h1, h2⟩, h3⟩ := h
    by_cases hx : x = k
    · refine Or.inl ⟨g, ?_, hk.1 hx⟩
      rw [Op.lookupswitch.offset_cons, if_pos (by rw [hx, h1])]
      exact h2
    · rw [lv_osw hx h1]
      exact lsOk_in pc os r h3 (hk.2 hx)
  | [], _ :: _, h, _ => by cases h
  | _ :: _, [], h, _ => by cases h
theorem instB_of : ∀ T C, instB T C = true → T = C ∨ (T = 6 ∧ C = 4) ∨ (T = 0 ∧ C = 1) ∨ (T = 2 ∧ C = 9) := by
  intro T C h
  unfold instB at h
  split at h <;> first | (cases h; done) | exact Or.inl rfl | exact Or.inr (Or.inl ⟨rfl, rfl⟩) | exact Or.inr (Or.inr (Or.inl ⟨rfl, rfl⟩)) | exact Or.inr (Or.inr (Or.inr ⟨rfl, rfl⟩))
theorem dfV_ok : ∀ ci, ci < 13 → ∀ j, j < nAt fldN ci → defaultValue (ftyAt ftys ci j) = vp_V (dfV ci) j := by
  intro ci _ j hj
  simp [vp_V, dfV, hj]
theorem dfV_wf (n : Nat) : ∀ ci, ∀ v ∈ dfV ci, wfV n v := by
  intro ci v hv a ha
  obtain ⟨k, -, rfl⟩ := List.mem_map.mp hv
  generalize ftyAt ftys ci k = ty at ha
  cases ty <;> cases ha
theorem dfV_ph (ad : Nat → Nat) (ci : Nat) : (dfV ci).map (ph ad) = dfV ci := by
  unfold dfV
  rw [List.map_map]
  refine List.map_congr_left fun k _ => ?_
  show ph ad (defaultValue (ftyAt ftys ci k)) = _
  generalize ftyAt ftys ci k = ty
  cases ty <;> rfl
theorem clsOf_of {C : String} {e : Nat} (h : clsOf C = e) (he : e < 13) : (e = 3 ∧ C = RX3) ∨ (e = 5 ∧ C = RX5) ∨ (e = 8 ∧ C = RX8) := by
  unfold clsOf at h
  split at h
  · rename_i q; exact Or.inl ⟨h.symm, q⟩
  · split at h
    · rename_i q; exact Or.inr (Or.inl ⟨h.symm, q⟩)
    · split at h
      · rename_i q; exact Or.inr (Or.inr ⟨h.symm, q⟩)
      · omega
theorem cl_inst : ∀ ci, ci < 13 → Cond.instantiable (sAt cidx ci) (nAt fldN ci) ∈ goodTbl ∧ Cond.initialized (sAt cidx ci) ∈ goodTbl := by
  intro ci h
  match ci, h with
  | 0, _ => exact ⟨wAt_ok w_cls0.1, wAt_ok w_cls0.2⟩
  | 1, _ => exact ⟨wAt_ok w_cls1.1, wAt_ok w_cls1.2⟩
  | 2, _ => exact ⟨wAt_ok w_cls2.1, wAt_ok w_cls2.2⟩
  | 3, _ => exact ⟨wAt_ok w_cls3.1, wAt_ok w_cls3.2⟩
  | 4, _ => exact ⟨wAt_ok w_cls4.1, wAt_ok w_cls4.2⟩
  | 5, _ => exact ⟨wAt_ok w_cls5.1, wAt_ok w_cls5.2⟩
  | 6, _ => exact ⟨wAt_ok w_cls6.1, wAt_ok w_cls6.2⟩
  | 7, _ => exact ⟨wAt_ok w_cls7.1, wAt_ok w_cls7.2⟩
  | 8, _ => exact ⟨wAt_ok w_cls8.1, wAt_ok w_cls8.2⟩
  | 9, _ => exact ⟨wAt_ok w_cls9.1, wAt_ok w_cls9.2⟩
  | 10, _ => exact ⟨wAt_ok w_cls10.1, wAt_ok w_cls10.2⟩
  | 11, _ => exact ⟨wAt_ok w_cls11.1, wAt_ok w_cls11.2⟩
  | 12, _ => exact ⟨wAt_ok w_cls12.1, wAt_ok w_cls12.2⟩
  | n + 13, h => exact absurd h (by omega)
/-- an array class is known by its name -/
theorem newA_eq {D : va_G} {tA : FieldType → ClassId} {s : State} (hK : va_K D vwCl (tyL tA) s) {t : Nat} {ty : FieldType} (ht : tyT[t]? = some ty) {cA : ClassId} (hK' : va_K D vwCl (tyL tA ++ [(cA, ty)]) s) : cA = tA ty := by
  have h1 := (hK.2 t _ (tyL_at ht)).2
  have h2 := (hK'.2 (tyL tA).length (cA, ty) (by rw [List.getElem?_append_right (Nat.le_refl _), Nat.sub_self]; rfl)).2
  cases ty with
  | object C =>
    obtain ⟨_, _, -, -, -, e1⟩ := h1
    obtain ⟨_, _, -, -, -, e2⟩ := h2
    exact Option.some.inj (e2.symm.trans e1)
  | _ => exact Option.some.inj (h2.symm.trans h1)
theorem aOk_of {C : String} {ci : Nat} (hci0 : ci < 13 ∨ ci = 999) (h : aOk (clsOf C) ci = true) : ci < 13 ∧ (FieldType.object C = .object (sAt cidx ci) ∨ (C = RX3 ∧ Cond.castable (sAt cidx ci) RX3 ∈ nwL)) := by
  simp only [aOk, Bool.or_eq_true, Bool.and_eq_true] at h
  rcases h with ⟨h1, h2⟩ | h2
  · have e := Nat.eq_of_beq_eq_true h2
    have hC : C = RX3 := by
      rcases clsOf_of e (by decide) with ⟨-, q⟩ | ⟨q, -⟩ | ⟨q, -⟩
      · exact q
      · cases q
      · cases q
    have hci := (famB_T (b := 0) (by decide) h1 (by decide)).1
    refine ⟨hci, ?_⟩
    simp only [famB, Bool.or_eq_true, Bool.and_eq_true] at h1
    rcases h1 with h1 | ⟨-, h1⟩
    · have := Nat.eq_of_beq_eq_true h1; subst this
      exact Or.inl (by rw [hC]; rfl)
    · unfold isFam at h1
      split at h1
      · exact Or.inr ⟨hC, by simp [nwL, sAt, cidx]⟩
      · exact Or.inr ⟨hC, by simp [nwL, sAt, cidx]⟩
      · exact Or.inr ⟨hC, by simp [nwL, sAt, cidx]⟩
      · exact Or.inl (by rw [hC]; rfl)
      · exact Or.inr ⟨hC, by simp [nwL, sAt, cidx]⟩
      · exact Or.inr ⟨hC, by simp [nwL, sAt, cidx]⟩
      · exact Or.inr ⟨hC, by simp [nwL, sAt, cidx]⟩
      · cases h1
  · have e := Nat.eq_of_beq_eq_true h2
    unfold clsOf at e
    split at e
    · rename_i q; subst e; exact ⟨by decide, Or.inl (by rw [q]; rfl)⟩
    · split at e
      · rename_i q; subst e; exact ⟨by decide, Or.inl (by rw [q]; rfl)⟩
      · split at e
        · rename_i q; subst e; exact ⟨by decide, Or.inl (by rw [q]; rfl)⟩
        · omega
section ST2
variable {p : Program} {l : Launch} {e : Env} {R : Room} {s : State} {m : MethodId} {args : Array Value} {below : List Frame} {meth : Method} {c : Code} {Q : State → Prop}
variable {D : va_G} {tA : FieldType → ClassId} {A : Nat → Prop} {cc : ByteArray} {nL : Nat} {ad0 : Nat → Nat} {n0 : Nat} {Ts : List Cond} {own : String} {y : MethodName} {scr : Option (Nat × (Nat → Int32))}
variable {ad : Nat → Nat} {ls : Array Slot} {H : Heap} {locs : List Loc} {L : Lc} {st st' : List Value} {σ : Hp}
/-- a store into an array, seen from both sides -/
theorem Sim.wrA {H1 : Heap} {locs1 : List Loc} {k n : Nat} {ty : FieldType} {g' : (Nat → Int32) ⊕ (Nat → Int64) ⊕ (Nat → UInt32) ⊕ (Nat → UInt64) ⊕ (Nat → Option Nat)} {X : vp_A} {av : FieldType × vp_A} (h : Sim s D tA A nL ad0 n0 ad ls H locs L st σ) (hk : gH σ k = some (.inl av)) (hw : wfC σ.length (.inl (ty, n, g'))) (hs : wfS σ.length st') (hX : aP ad (n, g') = X)
    (hP : va_P D vwCl ((wsp ad tA σ).set (k - 7) (ad k, .inl (tA ty, X))) H1) (hD : va_D A ((wsp ad tA σ).set (k - 7) (ad k, .inl (tA ty, X)))) (hS : va_S A s.heap H1 locs1) : Sim s D tA A nL ad0 n0 ad ls H1 locs1 L st' (sH σ k (.inl (ty, n, g'))) := by
  subst hX
  exact h.write (h.wh.ge_arr hk) hw hs hP hD hS
theorem Sim.getA {k : Nat} {ty : FieldType} {x : vp_A} (h : Sim s D tA A nL ad0 n0 ad ls H locs L st σ) (hk : gH σ k = some (.inl (ty, x))) : (wsp ad tA σ)[k - 7]? = some (ad k, .inl (tA ty, aP ad x)) := wsp_get hk (h.wh.ge_arr hk)
theorem statP_of {b : Nat} (h : statP.any (fun q => Nat.beq q.1 b) = true) : Cond.static (yOf b) ∈ goodTbl := by
  obtain ⟨q, hq, e⟩ := List.any_eq_true.mp h
  rw [← Nat.eq_of_beq_eq_true e]
  exact wAt_ok (List.all_eq_true.mp statP_ok q hq)
theorem instP_of {b : Nat} (h : instP.any (fun q => Nat.beq q.1 b) = true) : Cond.instanceMethod (yOf b) ∈ goodTbl := by
  obtain ⟨q, hq, e⟩ := List.any_eq_true.mp h
  rw [← Nat.eq_of_beq_eq_true e]
  exact wAt_ok (List.all_eq_true.mp instP_ok q hq)
theorem selP_of {b : Nat} (h : selP.any (fun q => Nat.beq q.1 b) = true) : Cond.selects (yOf b).cls (yOf b) (yOf b) ∈ goodTbl := by
  obtain ⟨q, hq, e⟩ := List.any_eq_true.mp h
  rw [← Nat.eq_of_beq_eq_true e]
  exact wAt_ok (List.all_eq_true.mp selP_ok q hq)
theorem initP_of {b : Nat} (h : initP.any (fun q => Nat.beq q b) = true) : ∀ M, gM mths b = some M → M.2.2.2.1 = none := by
  obtain ⟨q, hq, e⟩ := List.any_eq_true.mp h
  have e1 := Nat.eq_of_beq_eq_true e
  subst e1
  intro M hM
  have h1 := List.all_eq_true.mp initP_ok q hq
  rw [hM] at h1
  exact Option.isNone_iff_eq_none.mp h1
theorem dspF_of : ∀ (l : List (Nat × Nat × Nat × Nat)) (b ci mi : Nat), dspF (l.map (fun q => (q.1, q.2.1, q.2.2.1))) b ci = some mi → ∃ q ∈ l, q.1 = b ∧ q.2.1 = ci ∧ q.2.2.1 = mi
  | [], _, _, _, h => by cases h
  | (s, c, m, z) :: r, b, ci, mi, h => by
    simp only [List.map_cons, dspF] at h
    split at h
    · rename_i e
      simp only [Bool.and_eq_true] at e
      cases h
      exact ⟨_, List.mem_cons_self, Nat.eq_of_beq_eq_true e.1, Nat.eq_of_beq_eq_true e.2, rfl⟩
    · obtain ⟨q, h1, h2⟩ := dspF_of r b ci mi h
      exact ⟨q, List.mem_cons_of_mem _ h1, h2⟩
theorem zipS_of {args : Array Value} {s : State} (hg : ∀ w ∈ goodTbl, w.before args s = true) : ∀ (xs : List MethodName) (ps : List (Nat × Nat × Nat × Nat)) (b : Nat), zipS xs ps = true → b < xs.length →
    (Cond.sameMethod (selAt xs b).cls RX3 (selAt xs b).name (selAt xs b).desc).before args s = true ∧ va_Decl s ⟨RX3, (selAt xs b).name, (selAt xs b).desc⟩
  | [], _, _, _, hl => absurd hl (Nat.not_lt_zero _)
  | x :: r, [], _, h, _ => by cases h
  | x :: r, (p1, p2, p3, k) :: t, b, h, hl => by
    simp only [zipS, Bool.and_eq_true] at h
    obtain ⟨⟨⟨h1, h2⟩, h3⟩, h4⟩ := h
    cases b with
    | zero =>
      refine ⟨hg _ (wAt_ok h1), ?_⟩
      split at h3
      · exact va_Decl.of (hg _ (wAt_ok h2)) (hg _ (wAt_ok h3))
      · cases h3
    | succ b => exact zipS_of hg r t b h4 (Nat.lt_of_succ_lt_succ hl)
theorem step_S (hE : Env0 p l R s m args meth c D tA A cc nL ad0 n0 Ts own y scr) {cal : Cal} (hcal : CalOk l R cal) {bd : Nat × Nat} (hR : R.cells = bd.1 ∧ R.slots = bd.2)
    {pc cn sn a b d w f idx len : Nat} {k : Int32} {j : Int64} {sw : List (Int32 × Nat)} (hdg : decode cc pc = .ok (.invokestatic idx, 3)) (hok : opOk y nL own pc (.invokestatic idx) a b d w f k j sw = true) (hex : exOk (pc, .invokestatic idx, len, a, b, d, w, f, k, j, sw) = true)
    (h : goS cal bd (XW p l e R s m args below meth c Q D tA A nL ad0 n0) pc L st σ cn sn a b d f) (hs : Sim s D tA A nL ad0 n0 ad ls H locs L st σ) (hcn : cn ≤ bd.1 := by assumption) (hsn : sn ≤ bd.2 := by assumption) : W p l e R s m args below meth c H locs cn sn Q (F0 m pc ls (st.map (ph ad))) := by
  have hx := hE.1
  have hb := hE.2.1
  have hml := hE.2.2.1
  have ho := hE.2.2.2.1
  have hC := hE.2.2.2.2.2.2.2.1
  have hF : 1 ≤ R.frames ∧ 64 ≤ R.locals := ⟨Nat.le_trans (by decide) hE.2.2.2.2.2.2.2.2.2.2.2.1.1, Nat.le_trans (by decide) hE.2.2.2.2.2.2.2.2.2.2.2.1.2⟩
  unfold goS at h
  split at h
  · obtain ⟨n, dp, q1, sp, q0, r, rfl, h⟩ := kcp_of h
    obtain ⟨hcat, h⟩ := kB_of h
    replace hcat := Nat.le_of_ble_eq_true hcat
    obtain ⟨n0', g0, hq0, h⟩ := kAL_of h
    obtain ⟨n1, g1, hq1, h⟩ := kAL_of h
    obtain ⟨⟨z1, z2, z3, z4, z5⟩, h⟩ := h
    refine va_copyl hx hb (hml.trans hs.lh.1.symm) ho (hE.wd (wAt_ok hok)) (hE.wd (wAt_ok w_cpy.1)) (hE.wd (wAt_ok w_cpy.2.1)) (hE.wd (wAt_ok w_cpy.2.2)) hC.1 hs.hP hs.hD hs.hS (q0 - 7) (q1 - 7) 3 3 (hs.getA hq0) (hs.getA hq1) rfl rfl rfl z1 z2 z3 z4 z5 (fun i _ => rfl) hF.1 ?_ hdg (fun H1 locs1 hP hD hS => h ad ls H1 locs1 (hs.wrA hq1 ⟨⟨3, rfl⟩, trivial⟩ hs.wst.pop.pop.pop.pop.pop rfl hP hD hS))
    rw [rest_cat]
    have e : nativeFrameWords "java/lang/System" "arraycopy" 5 = 7 := by decide
    rw [e]
    have := hF.2
    omega
  · obtain ⟨x, z, r, rfl, h⟩ := k2i_of h
    obtain ⟨hcat, h⟩ := kB_of h
    replace hcat := Nat.le_of_ble_eq_true hcat
    exact va_mmax hx hb (hml.trans hs.lh.1.symm) ho (hE.wd (wAt_ok hok)) (hE.wd (wAt_ok w_max.1)) (hE.wd (wAt_ok w_math)) (hE.wd (wAt_ok w_max.2)) hF.1 (by rw [rest_cat]; have := hF.2; omega) (by rw [hR.1]; exact hcn) (by rw [hR.2]; exact hsn) hdg (h ad ls H locs (hs.stk (wfS.push wfV.int hs.wst.pop.pop)))
  · obtain ⟨x, z, r, rfl, h⟩ := k2i_of h
    obtain ⟨hcat, h⟩ := kB_of h
    replace hcat := Nat.le_of_ble_eq_true hcat
    exact va_mmin hx hb (hml.trans hs.lh.1.symm) ho (hE.wd (wAt_ok hok)) (hE.wd (wAt_ok w_min.1)) (hE.wd (wAt_ok w_math)) (hE.wd (wAt_ok w_min.2)) hF.1 (by rw [rest_cat]; have := hF.2; omega) (by rw [hR.1]; exact hcn) (by rw [hR.2]; exact hsn) hdg (h ad ls H locs (hs.stk (wfS.push wfV.int hs.wst.pop.pop)))
  · rename_i n2 n3 n4
    obtain ⟨⟨as, r⟩, hpop, h⟩ := kO_of h
    simp only [exOk, Bool.or_eq_true] at hex
    simp only [opOk] at hok
    split at hok
    · exact absurd rfl n2
    · exact absurd rfl n3
    · exact absurd rfl n4
    · simp only [Bool.and_eq_true, List.any_eq_true, decide_eq_true_eq] at hok
      obtain ⟨⟨g1, q, hq, g2⟩, g3⟩ := hok
      subst g2
      have hst := hE.wd (statP_of (hex.resolve_left (by decide)))
      exact go_static hE hcal hR hs hpop g1 (Or.inr (hC.2.1 _ hq)) hst hdg h
    · simp only [Bool.and_eq_true] at hok
      obtain ⟨⟨g0, g1⟩, g2⟩ := hok
      have ha0 := Nat.eq_of_beq_eq_true g0
      subst ha0
      have hst := hE.wd (statP_of (hex.resolve_left (by decide)))
      exact go_static hE hcal hR hs hpop g1 (Or.inl (hE.wd (wAt_ok g2))) hst hdg h
theorem step_I (hE : Env0 p l R s m args meth c D tA A cc nL ad0 n0 Ts own y scr) {cal : Cal} (hcal : CalOk l R cal) {bd : Nat × Nat} (hR : R.cells = bd.1 ∧ R.slots = bd.2)
    {pc cn sn a b d w f idx len : Nat} {k : Int32} {j : Int64} {sw : List (Int32 × Nat)} (hdg : decode cc pc = .ok (.invokespecial idx, 3)) (hok : opOk y nL own pc (.invokespecial idx) a b d w f k j sw = true) (hex : exOk (pc, .invokespecial idx, len, a, b, d, w, f, k, j, sw) = true)
    (h : goI cal bd (XW p l e R s m args below meth c Q D tA A nL ad0 n0) pc L st σ cn sn a b d f) (hs : Sim s D tA A nL ad0 n0 ad ls H locs L st σ) : W p l e R s m args below meth c H locs cn sn Q (F0 m pc ls (st.map (ph ad))) := by
  have hx := hE.1
  have hb := hE.2.1
  have hml := hE.2.2.1
  have ho := hE.2.2.2.1
  have hC := hE.2.2.2.2.2.2.2.1
  have hF : 1 ≤ R.frames ∧ 64 ≤ R.locals := ⟨Nat.le_trans (by decide) hE.2.2.2.2.2.2.2.2.2.2.2.1.1, Nat.le_trans (by decide) hE.2.2.2.2.2.2.2.2.2.2.2.1.2⟩
  unfold goI at h
  split at h
  · obtain ⟨q, r, rfl, h⟩ := k1r_of h
    obtain ⟨hcat, h⟩ := kB_of h
    replace hcat := Nat.le_of_ble_eq_true hcat
    have hl : (F0 m pc ls ((Value.ref q :: r).map (ph ad))).locals.size = c.maxLocals := hs.lh.1.trans hml.symm
    refine W.objInit hx hb ho (hE.wd (wAt_ok hok)) (hE.wd (wAt_ok w_obj.1)) (hE.wd (wAt_ok w_obj.2)) rfl hl (a := ad q) (rest := r.map (ph ad)) rfl hdg hF.1 ?_ (h ad ls H locs (hs.stk hs.wst.pop))
    rw [rest_cat]
    show 2 * 0 + _ + 12 ≤ _
    have := hF.2
    omega
  · obtain ⟨⟨as, r0⟩, hpop, h⟩ := kO_of h
    obtain ⟨q, r, e, h⟩ := k1r_of h
    dsimp only at e h
    subst e
    obtain ⟨ci, fs, hq, h⟩ := kObj_of h
    obtain ⟨hfam, h⟩ := kB_of h
    simp only [opOk, Bool.and_eq_true, decide_eq_true_eq] at hok
    obtain ⟨⟨⟨⟨g1, g2⟩, g3⟩, g4⟩, g5⟩ := hok
    simp only [supOk, List.any_eq_true, Bool.and_eq_true, Bool.or_eq_true, decide_eq_true_eq] at g5
    obtain ⟨z, hz, ⟨⟨⟨⟨y1, y2⟩, y3⟩, y4⟩, y5⟩, y6⟩ := g5
    have hex2 : instP.any (fun q => Nat.beq q.1 b) = true ∧ (selAt sups f).name ≠ "<init>" := by
      simp only [exOk, Bool.or_eq_true, Bool.and_eq_true, decide_eq_true_eq] at hex
      rcases hex with (hex | hex) | hex
      · cases hex
      · exact ⟨hex.1.2, hex.2⟩
      · cases hex.1.1
    exact go_super hE hcal hR hs hpop hq (isFam_lt hfam) g1 (hE.wd (wAt_ok g2)) (by rw [g3, g4]) (hE.wd (wAt_ok y5)) (hE.wd (wAt_ok y4)) (y6.imp id (fun z => hE.wd (wAt_ok z))) hex2.2 (hE.wd (instP_of hex2.1)) hdg h
  · rename_i n0 n3
    obtain ⟨⟨as, r0⟩, hpop, h⟩ := kO_of h
    obtain ⟨q, r, e, h⟩ := k1r_of h
    dsimp only at e h
    subst e
    have hex2 : instP.any (fun q => Nat.beq q.1 b) = true ∧ initP.any (fun q => Nat.beq q b) = true := by
      simp only [exOk, Bool.or_eq_true, Bool.and_eq_true] at hex
      rcases hex with (hex | hex) | hex
      · exact absurd (Nat.eq_of_beq_eq_true hex) n0
      · exact absurd (Nat.eq_of_beq_eq_true hex.1.1) n3
      · exact ⟨hex.1.2, hex.2⟩
    simp only [opOk] at hok
    split at hok
    · exact absurd rfl n0
    · exact absurd rfl n3
    · simp only [Bool.and_eq_true, List.any_eq_true, decide_eq_true_eq] at hok
      obtain ⟨⟨g1, g2⟩, q', hq', g3⟩ := hok
      subst g3
      exact go_init hE hcal hR hs hpop g1 g2 (initP_of hex2.2) (Or.inr (hC.2.1 _ hq')) (hE.wd (instP_of hex2.1)) hdg h
    · simp only [Bool.and_eq_true, decide_eq_true_eq] at hok
      obtain ⟨⟨⟨g0, g1⟩, g2⟩, g3⟩ := hok
      exact go_init hE hcal hR hs hpop g1 g2 (initP_of hex2.2) (Or.inl (hE.wd (wAt_ok g3))) (hE.wd (instP_of hex2.1)) hdg h
theorem step_V (hE : Env0 p l R s m args meth c D tA A cc nL ad0 n0 Ts own y scr) {cal : Cal} (hcal : CalOk l R cal) {bd : Nat × Nat} (hR : R.cells = bd.1 ∧ R.slots = bd.2)
    {pc cn sn a b d w f idx len : Nat} {k : Int32} {j : Int64} {sw : List (Int32 × Nat)} (hdg : decode cc pc = .ok (.invokevirtual idx, 3)) (hok : opOk y nL own pc (.invokevirtual idx) a b d w f k j sw = true) (hex : exOk (pc, .invokevirtual idx, len, a, b, d, w, f, k, j, sw) = true)
    (h : goV cal bd (XW p l e R s m args below meth c Q D tA A nL ad0 n0) pc L st σ cn sn a b d f) (hs : Sim s D tA A nL ad0 n0 ad ls H locs L st σ) (hcn : cn ≤ bd.1 := by assumption) (hsn : sn ≤ bd.2 := by assumption) : W p l e R s m args below meth c H locs cn sn Q (F0 m pc ls (st.map (ph ad))) := by
  have hC := hE.2.2.2.2.2.2.2.1
  unfold goV at h
  split at h
  · obtain ⟨⟨as, r0⟩, hpop, h⟩ := kO_of h
    obtain ⟨q, r, e, h⟩ := k1r_of h
    dsimp only at e h
    subst e
    obtain ⟨ci, fs, hq, h⟩ := kObj_of h
    obtain ⟨hfc, h⟩ := kB_of h
    have e1 := Nat.eq_of_beq_eq_true hfc
    subst e1
    simp only [opOk, Bool.and_eq_true, decide_eq_true_eq] at hok
    obtain ⟨⟨⟨g1, g2⟩, g3⟩, g4⟩ := hok
    have hex2 : instP.any (fun q => Nat.beq q.1 b) = true ∧ selP.any (fun q => Nat.beq q.1 b) = true := by
      simp only [exOk, Bool.or_eq_true, Bool.and_eq_true] at hex
      rcases hex with (hex | hex) | hex
      · cases hex
      · cases hex.1
      · exact ⟨hex.1.2, hex.2⟩
    exact go_exact hE hcal hR hs hpop hq (Nat.le_of_ble_eq_true g1) g2 g3 (hE.wd (wAt_ok g4)) (hE.wd (instP_of hex2.1)) (hE.wd (selP_of hex2.2)) hdg (kB_of h).2
  · obtain ⟨⟨as, r0⟩, hpop, h⟩ := kO_of h
    obtain ⟨q, r, e, h⟩ := k1r_of h
    dsimp only at e h
    subst e
    obtain ⟨ci, fs, hq, h⟩ := kObj_of h
    obtain ⟨mi, hmi, h⟩ := kO_of h
    simp only [opOk, Bool.and_eq_true] at hok
    obtain ⟨g1, g2⟩ := hok
    rw [dspP_eq] at hmi
    obtain ⟨z, hz, e1, e2, e3⟩ := dspF_of _ _ _ _ hmi
    have hz2 := List.all_eq_true.mp dspP_ok z hz
    simp only [Bool.and_eq_true] at hz2
    obtain ⟨⟨w1, w2⟩, w3⟩ := hz2
    subst e1; subst e2; subst e3
    have hb7 : z.1 < sels.length := by
      simp only [exOk, Bool.or_eq_true, Bool.and_eq_true] at hex
      rcases hex with (hex | hex) | hex
      · cases hex
      · exact Nat.le_of_ble_eq_true hex.2
      · cases hex.1.1
    obtain ⟨hsame, hdecl⟩ := zipS_of (fun w hw => hE.wd hw) sels selsP z.1 selsP_ok hb7
    exact go_disp hE hcal hR hs hpop hq (Nat.le_of_ble_eq_true w2) g1 (hE.wd (wAt_ok g2)) hsame hdecl (hE.wd (wAt_ok w1)) (hE.wd (instP_of w3)) hdg h
  · obtain ⟨q, r, rfl, h⟩ := k1r_of h
    obtain ⟨hbb, h⟩ := kB_of h
    simp only [Bool.and_eq_true] at hbb
    obtain ⟨⟨hcat, h1⟩, h6⟩ := hbb
    replace hcat := Nat.le_of_ble_eq_true hcat
    replace h1 := Nat.le_of_ble_eq_true h1
    replace h6 := Nat.le_of_ble_eq_true h6
    exact str_len hE hR hs hcn hsn h1 h6 hcat (hE.wd (wAt_ok hok)) hdg (fun H1 locs1 hs1 => h ad ls H1 locs1 (hs1.stk (wfS.push wfV.int hs.wst.pop)))
  · rename_i n0 n1 n2
    obtain ⟨x, q, r, rfl, h⟩ := kir_of h
    obtain ⟨hbb, hin, h⟩ := kB_of h
    simp only [Bool.and_eq_true] at hbb
    obtain ⟨⟨hcat, h1⟩, h6⟩ := hbb
    replace hcat := Nat.le_of_ble_eq_true hcat
    replace h1 := Nat.le_of_ble_eq_true h1
    replace h6 := Nat.le_of_ble_eq_true h6
    simp only [opOk, Bool.and_eq_true] at hok
    · exact str_chr hE hR hs hcn hsn h1 h6 hin hcat (hE.wd (wAt_ok hok.2)) hdg (fun H1 locs1 hs1 => h ad ls H1 locs1 (hs1.stk (wfS.push wfV.int hs.wst.pop.pop)))
set_option maxHeartbeats 8000000 in
theorem step_sound (hE : Env0 p l R s m args meth c D tA A cc nL ad0 n0 Ts own y scr) {cal : Cal} (hcal : CalOk l R cal) {bd : Nat × Nat} (hR : R.cells = bd.1 ∧ R.slots = bd.2) {ret : Option FieldType} {post : Option Value → Hp → Prop} (hret : RetH p l e R s m args below meth c Q D tA A cc nL ad0 n0 ret post bd)
    {pc cn sn len a b d w f : Nat} {i : Instr} {k : Int32} {j : Int64} {sw : List (Int32 × Nat)} (hcn : cn ≤ bd.1) (hsn : sn ≤ bd.2) (hdg : decode cc pc = .ok (i, len)) (hln : enOk y cc nL own (pc, i, len, a, b, d, w, f, k, j, sw) = true) (hex : exOk (pc, i, len, a, b, d, w, f, k, j, sw) = true)
    (h : stepE ret cal scr bd (XW p l e R s m args below meth c Q D tA A nL ad0 n0) post pc L st σ cn sn i len a b d f k j sw) (hs : Sim s D tA A nL ad0 n0 ad ls H locs L st σ) : W p l e R s m args below meth c H locs cn sn Q (F0 m pc ls (st.map (ph ad))) := by
  have hx := hE.1
  have hb := hE.2.1
  have hml := hE.2.2.1
  have ho := hE.2.2.2.1
  have hts := hE.2.2.2.2.1
  have hA := hE.2.2.2.2.2.2.1
  have hC := hE.2.2.2.2.2.2.2.1
  simp only [enOk, Bool.and_eq_true] at hln
  obtain ⟨⟨-, hlen⟩, hok⟩ := hln
  have l1 : isSw i = false → len = ilen i := by
    intro hz
    rw [hz, Bool.or_false] at hlen
    exact Nat.eq_of_beq_eq_true hlen
  cases i
  case iconst n =>
    have := l1 rfl; subst this
    exact lv_iconst hx hb hdg (of_decide_eq_true hok) (h ad ls H locs (hs.stk (wfS.push wfV.int hs.wst)))
  case bipush n =>
    have := l1 rfl; subst this
    exact lv_bipush hx hb hdg (of_decide_eq_true hok) (h ad ls H locs (hs.stk (wfS.push wfV.int hs.wst)))
  case sipush n =>
    have := l1 rfl; subst this
    exact lv_sipush hx hb hdg (of_decide_eq_true hok) (h ad ls H locs (hs.stk (wfS.push wfV.int hs.wst)))
  case lconst n =>
    have := l1 rfl; subst this
    exact lv_lconst hx hb hdg (of_decide_eq_true hok) (h ad ls H locs (hs.stk (wfS.push wfV.long hs.wst)))
  case iadd =>
    have := l1 rfl; subst this
    obtain ⟨x, z, r, rfl, h⟩ := k2i_of h
    exact lv_iadd hx hb hdg (h ad ls H locs (hs.stk (wfS.push wfV.int hs.wst.pop.pop)))
  case isub =>
    have := l1 rfl; subst this
    obtain ⟨x, z, r, rfl, h⟩ := k2i_of h
    exact lv_isub hx hb hdg (h ad ls H locs (hs.stk (wfS.push wfV.int hs.wst.pop.pop)))
  case imul =>
    have := l1 rfl; subst this
    obtain ⟨x, z, r, rfl, h⟩ := k2i_of h
    exact lv_imul hx hb hdg (h ad ls H locs (hs.stk (wfS.push wfV.int hs.wst.pop.pop)))
  case iand =>
    have := l1 rfl; subst this
    obtain ⟨x, z, r, rfl, h⟩ := k2i_of h
    exact lv_iand hx hb hdg (h ad ls H locs (hs.stk (wfS.push wfV.int hs.wst.pop.pop)))
  case ior =>
    have := l1 rfl; subst this
    obtain ⟨x, z, r, rfl, h⟩ := k2i_of h
    exact lv_ior hx hb hdg (h ad ls H locs (hs.stk (wfS.push wfV.int hs.wst.pop.pop)))
  case ixor =>
    have := l1 rfl; subst this
    obtain ⟨x, z, r, rfl, h⟩ := k2i_of h
    exact lv_ixor hx hb hdg (h ad ls H locs (hs.stk (wfS.push wfV.int hs.wst.pop.pop)))
  case ishl =>
    have := l1 rfl; subst this
    obtain ⟨x, z, r, rfl, h⟩ := k2i_of h
    exact lv_ishl hx hb hdg (h ad ls H locs (hs.stk (wfS.push wfV.int hs.wst.pop.pop)))
  case ishr =>
    have := l1 rfl; subst this
    obtain ⟨x, z, r, rfl, h⟩ := k2i_of h
    exact lv_ishr hx hb hdg (h ad ls H locs (hs.stk (wfS.push wfV.int hs.wst.pop.pop)))
  case iushr =>
    have := l1 rfl; subst this
    obtain ⟨x, z, r, rfl, h⟩ := k2i_of h
    exact lv_iushr hx hb hdg rfl (h ad ls H locs (hs.stk (wfS.push wfV.int hs.wst.pop.pop)))
  case idiv =>
    have := l1 rfl; subst this
    obtain ⟨x, z, r, rfl, h⟩ := k2i_of h
    exact lv_idiv hx hb hdg h.1 (h.2 ad ls H locs (hs.stk (wfS.push wfV.int hs.wst.pop.pop)))
  case irem =>
    have := l1 rfl; subst this
    obtain ⟨x, z, r, rfl, h⟩ := k2i_of h
    exact lv_irem hx hb hdg h.1 (h.2 ad ls H locs (hs.stk (wfS.push wfV.int hs.wst.pop.pop)))
  case ineg =>
    have := l1 rfl; subst this
    obtain ⟨x, r, rfl, h⟩ := k1i_of h
    exact lv_ineg hx hb hdg (h ad ls H locs (hs.stk (wfS.push wfV.int hs.wst.pop)))
  case i2l =>
    have := l1 rfl; subst this
    obtain ⟨x, r, rfl, h⟩ := k1i_of h
    exact lv_i2l hx hb hdg rfl (h ad ls H locs (hs.stk (wfS.push wfV.long hs.wst.pop)))
  case i2b =>
    have := l1 rfl; subst this
    obtain ⟨x, r, rfl, h⟩ := k1i_of h
    exact lv_i2b hx hb hdg rfl (h ad ls H locs (hs.stk (wfS.push wfV.int hs.wst.pop)))
  case i2s =>
    have := l1 rfl; subst this
    obtain ⟨x, r, rfl, h⟩ := k1i_of h
    exact lv_i2s hx hb hdg rfl (h ad ls H locs (hs.stk (wfS.push wfV.int hs.wst.pop)))
  case l2i =>
    have := l1 rfl; subst this
    obtain ⟨x, r, rfl, h⟩ := k1l_of h
    exact lv_l2i hx hb hdg rfl (h ad ls H locs (hs.stk (wfS.push wfV.int hs.wst.pop)))
  case ladd =>
    have := l1 rfl; subst this
    obtain ⟨x, z, r, rfl, h⟩ := k2l_of h
    exact lv_ladd hx hb hdg (h ad ls H locs (hs.stk (wfS.push wfV.long hs.wst.pop.pop)))
  case land =>
    have := l1 rfl; subst this
    obtain ⟨x, z, r, rfl, h⟩ := k2l_of h
    exact lv_land hx hb hdg (h ad ls H locs (hs.stk (wfS.push wfV.long hs.wst.pop.pop)))
  case lor =>
    have := l1 rfl; subst this
    obtain ⟨x, z, r, rfl, h⟩ := k2l_of h
    exact lv_lor hx hb hdg (h ad ls H locs (hs.stk (wfS.push wfV.long hs.wst.pop.pop)))
  case lshl =>
    have := l1 rfl; subst this
    obtain ⟨x, z, r, rfl, h⟩ := kil_of h
    exact lv_lshl hx hb hdg rfl (h ad ls H locs (hs.stk (wfS.push wfV.long hs.wst.pop.pop)))
  case lcmp =>
    have := l1 rfl; subst this
    obtain ⟨x, z, r, rfl, h⟩ := k2l_of h
    exact W.lcmp hx hb hdg (h ad ls H locs (hs.stk (wfS.push wfV.int hs.wst.pop.pop)))
  case dup =>
    have := l1 rfl; subst this
    obtain ⟨v, r, rfl, h⟩ := k1v_of h
    have h := kB_of h
    exact lv_dup hx hb hdg ((ph_cat ad v).trans (Nat.eq_of_beq_eq_true h.1)) (h.2 ad ls H locs (hs.stk (wfS.push hs.wst.top hs.wst)))
  case pop =>
    have := l1 rfl; subst this
    obtain ⟨v, r, rfl, h⟩ := k1v_of h
    have h := kB_of h
    exact lv_pop hx hb hdg ((ph_cat ad v).trans (Nat.eq_of_beq_eq_true h.1)) (h.2 ad ls H locs (hs.stk hs.wst.pop))
  case dup_x1 =>
    have := l1 rfl; subst this
    obtain ⟨v, z, r, rfl, h⟩ := k2v_of h
    obtain ⟨h1, h⟩ := kB_of h
    have h0 := (Bool.and_eq_true _ _).mp h1
    exact lv_dup_x1 hx hb hdg ((ph_cat ad v).trans (Nat.eq_of_beq_eq_true h0.1)) ((ph_cat ad z).trans (Nat.eq_of_beq_eq_true h0.2)) (h ad ls H locs (hs.stk (wfS.push hs.wst.top (wfS.push hs.wst.pop.top (wfS.push hs.wst.top hs.wst.pop.pop)))))
  case dup2 =>
    have := l1 rfl; subst this
    obtain ⟨v, z, r, rfl, h⟩ := k2v_of h
    obtain ⟨h1, h⟩ := kB_of h
    have h0 := (Bool.and_eq_true _ _).mp h1
    exact lv_dup2_11 hx hb hdg ((ph_cat ad v).trans (Nat.eq_of_beq_eq_true h0.1)) ((ph_cat ad z).trans (Nat.eq_of_beq_eq_true h0.2)) (h ad ls H locs (hs.stk (wfS.push hs.wst.top (wfS.push hs.wst.pop.top hs.wst))))
  case ldc idx =>
    have := l1 rfl; subst this
    cases a with
    | zero => exact lv_ldc hx hb ho (hE.wd (wAt_ok hok)) hdg (h ad ls H locs (hs.stk (wfS.push wfV.int hs.wst)))
    | succ a0 =>
      simp only [opOk, Bool.and_eq_true, decide_eq_true_eq, List.any_eq_true] at hok
      obtain ⟨ho2, q, hq, hq1, hq2⟩ := hok
      have e1 := Nat.eq_of_beq_eq_true hq1
      have e2 := Nat.eq_of_beq_eq_true hq2
      have hb6 : b < 7 := by
        rw [← e2]
        simp only [strL, List.mem_cons, List.not_mem_nil, or_false] at hq
        rcases hq with rfl | rfl | rfl | rfl | rfl | rfl <;> decide
      have hv := (hC.ad (ad' := ad) (fun k hk => hs.1 k (Nat.lt_of_lt_of_le hk hE.2.2.2.2.2.2.2.2.1))).2.2.2 q hq
      rw [e1, e2, ← ho2] at hv
      exact va_ldcS hx hb ho hv hdg (h ad ls H locs (hs.stk (wfS.push (wfV.ref (Nat.lt_of_lt_of_le hb6 hs.wh.len)) hs.wst)))
  case ldc_w idx =>
    have := l1 rfl; subst this
    exact lv_ldcw hx hb ho (hE.wd (wAt_ok hok)) hdg (h ad ls H locs (hs.stk (wfS.push wfV.int hs.wst)))
  case ldc2_w idx =>
    have := l1 rfl; subst this
    exact lv_ldc2 hx hb ho (hE.wd (wAt_ok hok)) hdg (h ad ls H locs (hs.stk (wfS.push wfV.long hs.wst)))
  case aconst_null =>
    have := l1 rfl; subst this
    exact lv_null hx hb hdg (h ad ls H locs (hs.stk (wfS.push wfV.null hs.wst)))
  case iload q =>
    have := l1 rfl; subst this
    obtain rfl := Nat.eq_of_beq_eq_true hok
    obtain ⟨v, hv, h⟩ := kL_of h
    obtain ⟨x, rfl, h⟩ := kI_of h
    exact lv_iload hx hb hdg (hs.lh.kv hv) (h ad ls H locs (hs.stk (wfS.push wfV.int hs.wst)))
  case iload_n q =>
    have := l1 rfl; subst this
    obtain ⟨v, hv, h⟩ := kL_of h
    obtain ⟨x, rfl, h⟩ := kI_of h
    exact lv_iload_n hx hb hdg (Nat.eq_of_beq_eq_true hok) (hs.lh.kv hv) (h ad ls H locs (hs.stk (wfS.push wfV.int hs.wst)))
  case lload q =>
    have := l1 rfl; subst this
    obtain rfl := Nat.eq_of_beq_eq_true hok
    obtain ⟨v, hv, h⟩ := kL_of h
    obtain ⟨x, rfl, h⟩ := kJ_of h
    exact lv_lload hx hb hdg (hs.lh.kv hv) (h ad ls H locs (hs.stk (wfS.push wfV.long hs.wst)))
  case lload_n q =>
    have := l1 rfl; subst this
    obtain ⟨v, hv, h⟩ := kL_of h
    obtain ⟨x, rfl, h⟩ := kJ_of h
    exact lv_lload_n hx hb hdg (Nat.eq_of_beq_eq_true hok) (hs.lh.kv hv) (h ad ls H locs (hs.stk (wfS.push wfV.long hs.wst)))
  case aload q =>
    have := l1 rfl; subst this
    obtain rfl := Nat.eq_of_beq_eq_true hok
    obtain ⟨v, hv, h⟩ := kL_of h
    obtain ⟨h1, h⟩ := kR_of h
    have h2 := h ad ls H locs (hs.stk (wfS.push (hs.wl _ _ hv) hs.wst))
    rcases h1 with ⟨x, rfl⟩ | rfl
    · exact lv_aload hx hb hdg (hs.lh.kv hv) h2
    · exact lv_aloadN hx hb hdg (hs.lh.kv hv) h2
  case aload_n q =>
    have := l1 rfl; subst this
    obtain ⟨v, hv, h⟩ := kL_of h
    obtain ⟨h1, h⟩ := kR_of h
    have h2 := h ad ls H locs (hs.stk (wfS.push (hs.wl _ _ hv) hs.wst))
    rcases h1 with ⟨x, rfl⟩ | rfl
    · exact lv_aload_n hx hb hdg (Nat.eq_of_beq_eq_true hok) (hs.lh.kv hv) h2
    · exact lv_aload_nN hx hb hdg (Nat.eq_of_beq_eq_true hok) (hs.lh.kv hv) h2
  case istore q =>
    have := l1 rfl; subst this
    simp only [opOk, Bool.and_eq_true] at hok
    obtain rfl := Nat.eq_of_beq_eq_true hok.1
    have hlt : q < nL := Nat.le_of_ble_eq_true hok.2
    obtain ⟨x, r, rfl, h⟩ := k1i_of h
    exact lv_istore hx hb hdg hs.lh.has hlt rfl (fun ls' hl' => h ad ls' H locs (hs.store wfV.int hs.wst.pop hlt hl'))
  case istore_n q =>
    have := l1 rfl; subst this
    simp only [opOk, Bool.and_eq_true] at hok
    have hq := Nat.eq_of_beq_eq_true hok.1
    have hlt : a < nL := by rw [← hq]; exact Nat.le_of_ble_eq_true hok.2
    obtain ⟨x, r, rfl, h⟩ := k1i_of h
    exact lv_istore_n hx hb hdg hq hs.lh.has hlt rfl (fun ls' hl' => h ad ls' H locs (hs.store wfV.int hs.wst.pop hlt hl'))
  case astore q =>
    have := l1 rfl; subst this
    simp only [opOk, Bool.and_eq_true] at hok
    obtain rfl := Nat.eq_of_beq_eq_true hok.1
    have hlt : q < nL := Nat.le_of_ble_eq_true hok.2
    obtain ⟨v, r, rfl, h⟩ := k1v_of h
    obtain ⟨h1, h⟩ := kR_of h
    rcases h1 with ⟨x, rfl⟩ | rfl
    · exact lv_astore hx hb hdg hs.lh.has hlt rfl (fun ls' hl' => h ad ls' H locs (hs.store hs.wst.top hs.wst.pop hlt hl'))
    · exact lv_astoreN hx hb hdg hs.lh.has hlt rfl (fun ls' hl' => h ad ls' H locs (hs.store hs.wst.top hs.wst.pop hlt hl'))
  case astore_n q =>
    have := l1 rfl; subst this
    simp only [opOk, Bool.and_eq_true] at hok
    have hq := Nat.eq_of_beq_eq_true hok.1
    have hlt : a < nL := by rw [← hq]; exact Nat.le_of_ble_eq_true hok.2
    obtain ⟨v, r, rfl, h⟩ := k1v_of h
    obtain ⟨h1, h⟩ := kR_of h
    rcases h1 with ⟨x, rfl⟩ | rfl
    · exact lv_astore_n hx hb hdg hq hs.lh.has hlt rfl (fun ls' hl' => h ad ls' H locs (hs.store hs.wst.top hs.wst.pop hlt hl'))
    · exact lv_astore_nN hx hb hdg hq hs.lh.has hlt rfl (fun ls' hl' => h ad ls' H locs (hs.store hs.wst.top hs.wst.pop hlt hl'))
  case iinc q n =>
    have := l1 rfl; subst this
    simp only [opOk, Bool.and_eq_true, decide_eq_true_eq] at hok
    obtain rfl := Nat.eq_of_beq_eq_true hok.1.1
    have hlt : q < nL := Nat.le_of_ble_eq_true hok.1.2
    obtain ⟨v, hv, h⟩ := kL_of h
    obtain ⟨x, rfl, h⟩ := kI_of h
    obtain ⟨kk, hkk⟩ := List.getElem?_of_mem ((lvOf_mem (ad := ad) (q := (q, Value.int x))).mpr ⟨_, hv, rfl⟩)
    exact lv_iinc hx hb hdg hs.lh.has hkk (by rw [hok.2]) hlt rfl (fun ls' hl' => h ad ls' H locs (hs.store wfV.int hs.wst hlt hl'))
  case goto o =>
    have := l1 rfl; subst this
    exact lv_goto hx hb hdg (of_decide_eq_true hok) (h ad ls H locs hs)
  case ifCond cnd o =>
    have := l1 rfl; subst this
    have ht := of_decide_eq_true hok
    cases cnd
    · obtain ⟨x, r, rfl, h⟩ := k1i_of h
      exact lv_if_eq hx hb hdg ht (fun z => h.1 z ad ls H locs (hs.stk hs.wst.pop)) (fun z => h.2 z ad ls H locs (hs.stk hs.wst.pop))
    · obtain ⟨x, r, rfl, h⟩ := k1i_of h
      exact lv_if_ne hx hb hdg ht (fun z => h.1 z ad ls H locs (hs.stk hs.wst.pop)) (fun z => h.2 z ad ls H locs (hs.stk hs.wst.pop))
    · obtain ⟨x, r, rfl, h⟩ := k1i_of h
      exact lv_if_lt hx hb hdg ht (fun z => h.1 z ad ls H locs (hs.stk hs.wst.pop)) (fun z => h.2 z ad ls H locs (hs.stk hs.wst.pop))
    · obtain ⟨x, r, rfl, h⟩ := k1i_of h
      exact lv_if_ge hx hb hdg ht (fun z => h.1 z ad ls H locs (hs.stk hs.wst.pop)) (fun z => h.2 z ad ls H locs (hs.stk hs.wst.pop))
    · obtain ⟨x, r, rfl, h⟩ := k1i_of h
      exact lv_if_gt hx hb hdg ht (fun z => h.1 z ad ls H locs (hs.stk hs.wst.pop)) (fun z => h.2 z ad ls H locs (hs.stk hs.wst.pop))
    · obtain ⟨x, r, rfl, h⟩ := k1i_of h
      exact lv_if_le hx hb hdg ht (fun z => h.1 z ad ls H locs (hs.stk hs.wst.pop)) (fun z => h.2 z ad ls H locs (hs.stk hs.wst.pop))
  case if_icmp cnd o =>
    have := l1 rfl; subst this
    have ht := of_decide_eq_true hok
    cases cnd
    · obtain ⟨x, z, r, rfl, h⟩ := k2i_of h
      exact lv_icmp_eq hx hb hdg ht (fun z => h.1 z ad ls H locs (hs.stk hs.wst.pop.pop)) (fun z => h.2 z ad ls H locs (hs.stk hs.wst.pop.pop))
    · obtain ⟨x, z, r, rfl, h⟩ := k2i_of h
      exact lv_icmp_ne hx hb hdg ht (fun z => h.1 z ad ls H locs (hs.stk hs.wst.pop.pop)) (fun z => h.2 z ad ls H locs (hs.stk hs.wst.pop.pop))
    · obtain ⟨x, z, r, rfl, h⟩ := k2i_of h
      exact lv_icmp_lt hx hb hdg ht (fun z => h.1 z ad ls H locs (hs.stk hs.wst.pop.pop)) (fun z => h.2 z ad ls H locs (hs.stk hs.wst.pop.pop))
    · obtain ⟨x, z, r, rfl, h⟩ := k2i_of h
      exact lv_icmp_ge hx hb hdg ht (fun z => h.1 z ad ls H locs (hs.stk hs.wst.pop.pop)) (fun z => h.2 z ad ls H locs (hs.stk hs.wst.pop.pop))
    · obtain ⟨x, z, r, rfl, h⟩ := k2i_of h
      exact lv_icmp_gt hx hb hdg ht (fun z => h.1 z ad ls H locs (hs.stk hs.wst.pop.pop)) (fun z => h.2 z ad ls H locs (hs.stk hs.wst.pop.pop))
    · obtain ⟨x, z, r, rfl, h⟩ := k2i_of h
      exact lv_icmp_le hx hb hdg ht (fun z => h.1 z ad ls H locs (hs.stk hs.wst.pop.pop)) (fun z => h.2 z ad ls H locs (hs.stk hs.wst.pop.pop))
  case ifnull o =>
    have := l1 rfl; subst this
    rcases k1q_of h with ⟨x, r, rfl, h⟩ | ⟨r, rfl, h⟩
    · exact lv_ifnull hx hb hdg (h ad ls H locs (hs.stk hs.wst.pop))
    · exact lv_ifnullN hx hb hdg (of_decide_eq_true hok) (h ad ls H locs (hs.stk hs.wst.pop))
  case ifnonnull o =>
    have := l1 rfl; subst this
    rcases k1q_of h with ⟨x, r, rfl, h⟩ | ⟨r, rfl, h⟩
    · exact lv_ifnonnull hx hb hdg (of_decide_eq_true hok) (h ad ls H locs (hs.stk hs.wst.pop))
    · exact lv_ifnonnullN hx hb hdg (h ad ls H locs (hs.stk hs.wst.pop))
  case tableswitch o lo hi os =>
    simp only [opOk, Bool.and_eq_true, decide_eq_true_eq] at hok
    obtain ⟨⟨h1, h2⟩, h3⟩ := hok
    obtain ⟨x, r, rfl, h⟩ := k1i_of h
    rcases tsOk_in pc lo 0 os.toList sw h2 h (fun j hj => absurd hj (Nat.not_lt_zero j)) with ⟨jj, o2, g, e1, e2, e3, e4⟩ | ⟨e1, e2⟩
    · have hlt : jj < os.toList.length := (List.getElem?_eq_some_iff.mp e1).1
      refine lv_tableIn hx hb hdg (by omega) (by omega) (off := o2) ?_ e3 (e4 ad ls H locs (hs.stk hs.wst.pop))
      rw [show (x.toInt - lo).toNat = jj by omega, ← Array.getElem?_toList]
      exact e1
    · refine lv_tableOut hx hb hdg ?_ h1 (e2 ad ls H locs (hs.stk hs.wst.pop))
      by_cases q : x.toInt < lo
      · exact Or.inl q
      · by_cases q2 : hi < x.toInt
        · exact Or.inr q2
        · exact absurd (show x.toInt = lo + ((x.toInt - lo).toNat : Nat) by omega) (e1 (x.toInt - lo).toNat (by omega))
  case lookupswitch o ps =>
    simp only [opOk, Bool.and_eq_true, decide_eq_true_eq] at hok
    obtain ⟨⟨h1, h2⟩, h3⟩ := hok
    obtain ⟨x, r, rfl, h⟩ := k1i_of h
    rcases lsOk_in pc (df := o) ps.toList sw h2 h with ⟨g, e1, e2⟩ | ⟨e1, e2⟩
    · exact lv_lookup hx hb hdg h3 rfl e1 (e2 ad ls H locs (hs.stk hs.wst.pop))
    · exact lv_lookup hx hb hdg h3 e1 h1 (e2 ad ls H locs (hs.stk hs.wst.pop))
  case getfield idx =>
    have := l1 rfl; subst this
    simp only [opOk, Bool.and_eq_true, Bool.or_eq_true, decide_eq_true_eq] at hok
    obtain ⟨⟨⟨g1, g2⟩, g3⟩, g4⟩ := hok
    have ha13 : a < 13 := Nat.le_of_ble_eq_true g1
    have hbN : b < nAt fldN a := Nat.le_of_ble_eq_true g2
    obtain ⟨q, r, rfl, h⟩ := k1r_of h
    obtain ⟨ci, fs, hq, h⟩ := kObj_of h
    obtain ⟨hfam, h⟩ := kB_of h
    obtain ⟨v, hv, h⟩ := kV_of h
    obtain ⟨hc13, hbN2, eT, -⟩ := famB_T ha13 hfam hbN
    have h7 := hs.wh.ge_obj hq hc13
    have hwd := hE.wd (wAt_ok g3)
    rw [eT] at hwd g4
    refine va_get (v := ph ad v) hx hb hts (fun w hw => hE.2.2.2.2.2.1 w (cl_lay ci hc13 w hw)) ho hC.1 hs.hP (q - 7) (wsp_get hq h7) (cl_at ci hc13) b hbN2 hwd ?_ ?_ hdg (h ad ls H locs (hs.stk (wfS.push ((hs.wh.2 _ _ hq).2 v (by rw [gV_eq] at hv; exact List.mem_of_getElem? hv)) hs.wst.pop)))
    · intro z hz
      rcases g4 with g4 | g4
      · rw [← g4]; exact hz
      · exact u_same (hE.wd (wAt_ok g4)) z hz
    · rw [List.getElem?_map, ← gV_eq, hv]; rfl
  case putfield idx =>
    have := l1 rfl; subst this
    simp only [opOk, Bool.and_eq_true, Bool.or_eq_true, decide_eq_true_eq, Bool.not_eq_true'] at hok
    obtain ⟨⟨⟨⟨g1, g2⟩, g3⟩, g4⟩, g5⟩ := hok
    have ha13 : a < 13 := Nat.le_of_ble_eq_true g1
    have hbN : b < nAt fldN a := Nat.le_of_ble_eq_true g2
    obtain ⟨v, q, r, rfl, h⟩ := kvr_of h
    obtain ⟨ci, fs, hq, h⟩ := kObj_of h
    obtain ⟨hff, h⟩ := kB_of h
    obtain ⟨hfam, hfit0⟩ := (Bool.and_eq_true _ _).mp hff
    have hfit := putB_of hfit0
    obtain ⟨v0, hv0, h⟩ := kV_of h
    obtain ⟨hc13, hbN2, eT, -⟩ := famB_T ha13 hfam hbN
    have h7 := hs.wh.ge_obj hq hc13
    have hwd := hE.wd (wAt_ok g3)
    rw [eT] at hwd g4 g5
    obtain ⟨hn1, hn2⟩ := ph_ok (ad := ad) hfit.1 hfit.2
    have hl : b < (fs.map (ph ad)).length := by
      rw [List.length_map]
      rw [gV_eq] at hv0
      exact (List.getElem?_eq_some_iff.mp hv0).1
    have hwf : wfC σ.length (.inr (ci, sV fs b v)) := by
      refine ⟨Or.inl hc13, fun z hz => ?_⟩
      rw [sV_eq] at hz
      rcases List.mem_or_eq_of_mem_set hz with h1 | h1
      · exact (hs.wh.2 _ _ hq).2 z h1
      · rw [h1]; exact hs.wst.top
    have hcp : (fs.map (ph ad)).set b (ph ad v) = (sV fs b v).map (ph ad) := by rw [sV_eq, List.map_set]
    have hsame : ∀ z, s.fieldFound? (tAt clT ci b).1 (tAt clT ci b).2.1 (tAt clT ci b).2.2.1 = some z → s.fieldFound? (sAt cidx a) (tAt clT ci b).2.1 (tAt clT ci b).2.2.1 = some z := fun z hz => by rw [← g4]; exact hz
    have hin := fun w hw => hE.2.2.2.2.2.1 w (cl_lay ci hc13 w hw)
    cases hfin : (tAt clT ci b).2.2.2 with
    | false =>
      refine va_put hx hb hts hin (ftyAt ftys ci) (cl_ty ci hc13) (cl_nm ci hc13) ho hC.1 hs.hP hs.hD hs.hS (q - 7) (wsp_get hq h7) (cl_at ci hc13) b hbN2 hwd hsame hfin (cl_ty ci hc13 b hbN2) hn1 hn2 hl hdg (fun H1 locs1 hP hD hS => ?_)
      rw [hcp] at hP hD
      exact h ad ls H1 locs1 (hs.write h7 hwf hs.wst.pop.pop hP hD hS)
    | true =>
      rw [hfin] at g5
      have g6 := g5.resolve_left (by decide)
      refine va_putF hx hb hts hin (ftyAt ftys ci) (cl_ty ci hc13) (cl_nm ci hc13) ho hC.1 hs.hP hs.hD hs.hS (q - 7) (wsp_get hq h7) (cl_at ci hc13) b hbN2 hwd hsame hfin (hE.2.2.2.2.2.2.2.2.2.1 g6.2) g6.1 (cl_ty ci hc13 b hbN2) hn1 hn2 hl hdg (fun H1 locs1 hP hD hS => ?_)
      rw [hcp] at hP hD
      exact h ad ls H1 locs1 (hs.write h7 hwf hs.wst.pop.pop hP hD hS)
  case new idx =>
    have := l1 rfl; subst this
    simp only [opOk, Bool.and_eq_true] at hok
    have ha13 : a < 13 := Nat.le_of_ble_eq_true hok.1
    obtain ⟨hi1, hi2⟩ := cl_inst a ha13
    refine va_new (fs := dfV a) hx hb hts (fun w hw => hE.2.2.2.2.2.1 w (cl_lay a ha13 w hw)) (ftyAt ftys a) (cl_ty a ha13) ho (hE.wd (wAt_ok hok.2)) (hE.wd hi1) (hE.wd hi2) hC.1 hs.hP hs.hD hs.hS hA (cl_at a ha13) (dfV_ok a ha13) (by rw [hR.1]; exact h.1.1) (by rw [hR.2]; exact h.1.2) hdg (fun q H1 hP hD hS => ?_)
    have hcp : ∀ ad' : Nat → Nat, cP ad' tA (.inr (a, dfV a)) = .inr (a, dfV a) := fun ad' => by
      show Sum.inr (a, (dfV a).map (ph ad')) = _
      rw [dfV_ph]
    obtain ⟨hsim, hst⟩ := hs.made (q := q) (cv := .inr (a, dfV a)) ⟨Or.inl ha13, dfV_wf _ a⟩ hs.wst (by rw [hcp, hcp]) (by rw [hcp]; exact hP) (by rw [hcp]; exact hD) hS
    have h3 := h.2 _ ls H1 locs hsim
    rw [hst] at h3
    exact h3
  case newarray at_ =>
    have := l1 rfl; subst this
    obtain ⟨x, r, rfl, h⟩ := k1i_of h
    obtain ⟨t, ht, h⟩ := kO_of h
    cases at_ <;> first | (cases ht; done) | skip
    · cases ht
      refine va_newa (atype := .boolean) (ty := .boolean) (a0 := (x.toNatClampNeg, .inl (fun _ => 0))) hx hb (hE.wd (wAt_ok w_arr_boolean)) rfl hC.1 hs.hP hs.hD hs.hS hA (fun cA => by rw [vp_cell_i]; rfl) h.1.1 rfl (by have := h.1.2.1; show x.toNatClampNeg * 1 ≤ _; omega) (by rw [hR.1]; exact h.1.2.2.1) (by rw [hR.2]; exact h.1.2.2.2) hdg (fun q cA H1 hK hP hD hS => ?_)
      have hcA : cA = tA .boolean := newA_eq hC.1 (t := 2) rfl hK
      subst hcA
      obtain ⟨hsim, hst⟩ := hs.made (q := q) (cv := .inl (.boolean, (x.toNatClampNeg, .inl (fun _ => 0)))) ⟨⟨2, rfl⟩, trivial⟩ hs.wst.pop rfl hP hD hS
      have h3 := h.2 _ ls H1 locs hsim
      rw [hst] at h3
      exact h3
    · cases ht
      refine va_newa (atype := .byte) (ty := .byte) (a0 := (x.toNatClampNeg, .inl (fun _ => 0))) hx hb (hE.wd (wAt_ok w_arr_byte)) rfl hC.1 hs.hP hs.hD hs.hS hA (fun cA => by rw [vp_cell_i]; rfl) h.1.1 rfl (by have := h.1.2.1; show x.toNatClampNeg * 1 ≤ _; omega) (by rw [hR.1]; exact h.1.2.2.1) (by rw [hR.2]; exact h.1.2.2.2) hdg (fun q cA H1 hK hP hD hS => ?_)
      have hcA : cA = tA .byte := newA_eq hC.1 (t := 1) rfl hK
      subst hcA
      obtain ⟨hsim, hst⟩ := hs.made (q := q) (cv := .inl (.byte, (x.toNatClampNeg, .inl (fun _ => 0)))) ⟨⟨1, rfl⟩, trivial⟩ hs.wst.pop rfl hP hD hS
      have h3 := h.2 _ ls H1 locs hsim
      rw [hst] at h3
      exact h3
    · cases ht
      refine va_newa (atype := .int) (ty := .int) (a0 := (x.toNatClampNeg, .inl (fun _ => 0))) hx hb (hE.wd (wAt_ok w_arr_int)) rfl hC.1 hs.hP hs.hD hs.hS hA (fun cA => by rw [vp_cell_i]; rfl) h.1.1 rfl (by have := h.1.2.1; show x.toNatClampNeg * 4 ≤ _; omega) (by rw [hR.1]; exact h.1.2.2.1) (by rw [hR.2]; exact h.1.2.2.2) hdg (fun q cA H1 hK hP hD hS => ?_)
      have hcA : cA = tA .int := newA_eq hC.1 (t := 0) rfl hK
      subst hcA
      obtain ⟨hsim, hst⟩ := hs.made (q := q) (cv := .inl (.int, (x.toNatClampNeg, .inl (fun _ => 0)))) ⟨⟨0, rfl⟩, trivial⟩ hs.wst.pop rfl hP hD hS
      have h3 := h.2 _ ls H1 locs hsim
      rw [hst] at h3
      exact h3
    · cases ht
      refine va_newa (atype := .long) (ty := .long) (a0 := (x.toNatClampNeg, .inr (.inl (fun _ => 0)))) hx hb (hE.wd (wAt_ok w_arr_long)) rfl hC.1 hs.hP hs.hD hs.hS hA (fun cA => by rw [vp_cell_l]; rfl) h.1.1 rfl (by have := h.1.2.1; show x.toNatClampNeg * 8 ≤ _; omega) (by rw [hR.1]; exact h.1.2.2.1) (by rw [hR.2]; exact h.1.2.2.2) hdg (fun q cA H1 hK hP hD hS => ?_)
      have hcA : cA = tA .long := newA_eq hC.1 (t := 3) rfl hK
      subst hcA
      obtain ⟨hsim, hst⟩ := hs.made (q := q) (cv := .inl (.long, (x.toNatClampNeg, .inr (.inl (fun _ => 0))))) ⟨⟨3, rfl⟩, trivial⟩ hs.wst.pop rfl hP hD hS
      have h3 := h.2 _ ls H1 locs hsim
      rw [hst] at h3
      exact h3
  case anewarray idx =>
    have := l1 rfl; subst this
    simp only [opOk, Bool.and_eq_true, Bool.or_eq_true] at hok
    obtain ⟨x, r, rfl, h⟩ := k1i_of h
    have hao : va_AO (sAt cidx a) s ∧ ∃ t : Nat, tyT[t]? = some (.object (sAt cidx a)) := by
      rcases hok.1 with (g | g) | g
      · have := Nat.eq_of_beq_eq_true g; subst this
        exact ⟨hC.2.1 (.arrayOver (.object RX3)) (by simp [nwL]), 4, rfl⟩
      · have := Nat.eq_of_beq_eq_true g; subst this
        exact ⟨hC.2.1 (.arrayOver (.object RX5)) (by simp [nwL]), 5, rfl⟩
      · have := Nat.eq_of_beq_eq_true g; subst this
        exact ⟨hC.2.1 (.arrayOver (.object RX8)) (by simp [nwL]), 6, rfl⟩
    obtain ⟨hao, t, htt⟩ := hao
    refine va_newq hx hb ho (hE.wd (wAt_ok hok.2)) hao hC.1 hs.hP hs.hD hs.hS hA h.1.1 rfl (by have := h.1.2.1; omega) (by rw [hR.1]; exact h.1.2.2.1) (by rw [hR.2]; exact h.1.2.2.2) hdg (fun q cA H1 hK hP hD hS => ?_)
    have hcA : cA = tA (.object (sAt cidx a)) := newA_eq hC.1 htt hK
    subst hcA
    obtain ⟨hsim, hst⟩ := hs.made (q := q) (cv := .inl (.object (sAt cidx a), x.toNatClampNeg, .inr (.inr (.inr (.inr (fun _ => none)))))) ⟨⟨t, htt⟩, fun i a h => by cases h⟩ hs.wst.pop rfl hP hD hS
    have h3 := h.2 _ ls H1 locs hsim
    rw [hst] at h3
    exact h3
  case arraylength =>
    have := l1 rfl; subst this
    obtain ⟨q, r, rfl, h2⟩ := k1r_of h
    clear h
    have h := h2
    split at h
    · rename_i n g
      obtain ⟨hX, hbl, hbA⟩ := hE.2.2.2.2.2.2.2.2.2.2.2.2 n g rfl
      have e0 : ad 0 = ad0 0 := hs.1 0 (Nat.lt_of_lt_of_le (by decide) hE.2.2.2.2.2.2.2.2.1)
      refine va_slen (b := ad 0) hx hb (by rw [e0]; exact hX) (by rw [e0]; exact hbl) (by rw [e0]; exact hbA) hs.hS hdg (h ad ls H locs (hs.stk (wfS.push wfV.int hs.wst.pop)))
    · obtain ⟨ty, n, g, hq, h⟩ := kLen_of h
      obtain ⟨t, ht⟩ := (hs.wh.2 _ _ hq).1
      refine va_alen hx hb hC.1 hs.hP (q - 7) t (hs.getA hq) (tyL_at ht) (v := Int32.ofNat n) ?_ hdg (h ad ls H locs (hs.stk (wfS.push wfV.int hs.wst.pop)))
      obtain f | f | f | f | f := g <;> rfl
  case iaload =>
    have := l1 rfl; subst this
    obtain ⟨x, q, r, rfl, h2⟩ := kir_of h
    clear h
    have h := h2
    split at h
    · rename_i n g
      obtain ⟨hX, hbl, hbA⟩ := hE.2.2.2.2.2.2.2.2.2.2.2.2 n g rfl
      have e0 : ad 0 = ad0 0 := hs.1 0 (Nat.lt_of_lt_of_le (by decide) hE.2.2.2.2.2.2.2.2.1)
      exact va_sld (b := ad 0) hx hb (by rw [e0]; exact hX) (by rw [e0]; exact hbl) (by rw [e0]; exact hbA) hs.hS h.1 hdg (h.2 ad ls H locs (hs.stk (wfS.push wfV.int hs.wst.pop.pop)))
    · obtain ⟨n, g, hq, h⟩ := kAI_of h
      exact va_iald hx hb hC.1 hs.hP (q - 7) 0 (hs.getA hq) rfl h.1 hdg (h.2 ad ls H locs (hs.stk (wfS.push wfV.int hs.wst.pop.pop)))
  case baload =>
    have := l1 rfl; subst this
    obtain ⟨x, q, r, rfl, h2⟩ := kir_of h
    clear h
    have h := h2
    obtain ⟨ty, n, g, hty, hq, h⟩ := kAB_of h
    rcases hty with rfl | rfl
    · exact va_bald hx hb hC.1 hs.hP (q - 7) 1 (hs.getA hq) rfl h.1 hdg (h.2 ad ls H locs (hs.stk (wfS.push wfV.int hs.wst.pop.pop)))
    · exact va_zald hx hb hC.1 hs.hP (q - 7) 2 (hs.getA hq) rfl h.1 hdg (h.2 ad ls H locs (hs.stk (wfS.push wfV.int hs.wst.pop.pop)))
  case laload =>
    have := l1 rfl; subst this
    obtain ⟨x, q, r, rfl, h2⟩ := kir_of h
    clear h
    have h := h2
    obtain ⟨n, g, hq, h⟩ := kAL_of h
    exact va_lald hx hb hC.1 hs.hP (q - 7) 3 (hs.getA hq) rfl h.1 hdg (h.2 ad ls H locs (hs.stk (wfS.push wfV.long hs.wst.pop.pop)))
  case aaload =>
    have := l1 rfl; subst this
    obtain ⟨x, q, r, rfl, h2⟩ := kir_of h
    clear h
    have h := h2
    obtain ⟨C, n, g, hq, h⟩ := kAR_of h
    have hwc := hs.wh.2 _ _ hq
    obtain ⟨t, ht⟩ := hwc.1
    have e1 : va_rf ((g x.toNatClampNeg).map ad) = ph ad (va_rf (g x.toNatClampNeg)) := by cases g x.toNatClampNeg <;> rfl
    refine va_aldq hx hb hC.1 hs.hP (q - 7) t (hs.getA hq) (tyL_at ht) h.1 hdg ?_
    have h2 := h.2 ad ls H locs (hs.stk (wfS.push (v := va_rf (g x.toNatClampNeg)) (by
      cases hg : g x.toNatClampNeg with
      | none => exact wfV.null
      | some z => exact wfV.ref (hwc.2 _ z hg)) hs.wst.pop.pop))
    rw [e1]
    exact h2
  case iastore =>
    have := l1 rfl; subst this
    obtain ⟨v, x, q, r, rfl, h2⟩ := kiir_of h
    clear h
    have h := h2
    obtain ⟨n, g, hq, h⟩ := kAI_of h
    exact va_iast hx hb hC.1 hs.hP hs.hD hs.hS (q - 7) 0 (hs.getA hq) rfl h.1 hdg (fun H1 locs1 hP hD hS => h.2 ad ls H1 locs1 (hs.wrA hq ⟨⟨0, rfl⟩, trivial⟩ hs.wst.pop.pop.pop rfl hP hD hS))
  case bastore =>
    have := l1 rfl; subst this
    obtain ⟨v, x, q, r, rfl, h2⟩ := kiir_of h
    clear h
    have h := h2
    obtain ⟨ty, n, g, hty, hq, h⟩ := kAB_of h
    rcases hty with rfl | rfl
    · exact va_bast hx hb hC.1 hs.hP hs.hD hs.hS (q - 7) 1 (hs.getA hq) rfl h.1 hdg (fun H1 locs1 hP hD hS => h.2 ad ls H1 locs1 (hs.wrA hq ⟨⟨1, rfl⟩, trivial⟩ hs.wst.pop.pop.pop rfl hP hD hS))
    · exact va_zast hx hb hC.1 hs.hP hs.hD hs.hS (q - 7) 2 (hs.getA hq) rfl h.1 hdg (fun H1 locs1 hP hD hS => h.2 ad ls H1 locs1 (hs.wrA hq ⟨⟨2, rfl⟩, trivial⟩ hs.wst.pop.pop.pop rfl hP hD hS))
  case lastore =>
    have := l1 rfl; subst this
    obtain ⟨v, x, q, r, rfl, h2⟩ := klir_of h
    clear h
    have h := h2
    obtain ⟨n, g, hq, h⟩ := kAL_of h
    exact va_last hx hb hC.1 hs.hP hs.hD hs.hS (q - 7) 3 (hs.getA hq) rfl h.1 hdg (fun H1 locs1 hP hD hS => h.2 ad ls H1 locs1 (hs.wrA hq ⟨⟨3, rfl⟩, trivial⟩ hs.wst.pop.pop.pop rfl hP hD hS))
  case aastore =>
    have := l1 rfl; subst this
    obtain ⟨v, x, q, r, rfl, h2⟩ := kvir_of h
    clear h
    have h := h2
    obtain ⟨C, n, g, hq, hin, h⟩ := kAR_of h
    have hwc := hs.wh.2 _ _ hq
    obtain ⟨t, ht⟩ := hwc.1
    rcases k1q_of h with ⟨u, r', e, h⟩ | ⟨r', e, h⟩
    · cases e
      obtain ⟨ci, fs, hu, h⟩ := kObj_of h
      obtain ⟨hok2, h⟩ := kB_of h
      have hul := gH_lt hu
      have hmp : va_up (fun i => (g i).map ad) x.toNatClampNeg (some (ad u)) = fun i => (va_up g x.toNatClampNeg (some u) i).map ad := by
        funext i
        unfold va_up
        split <;> rfl
      have hwn : wfC σ.length (.inl (.object C, n, .inr (.inr (.inr (.inr (va_up g x.toNatClampNeg (some u))))))) := by
        refine ⟨hwc.1, fun i z hz => ?_⟩
        unfold va_up at hz
        split at hz
        · cases hz; exact hul
        · exact hwc.2 i z hz
      have kk : ∀ (H1 : Heap) (locs1 : List Loc), va_P D vwCl ((wsp ad tA σ).set (q - 7) (ad q, .inl (tA (.object C), n, .inr (.inr (.inr (.inr (va_up (fun i => (g i).map ad) x.toNatClampNeg (some (ad u))))))))) H1 → va_D A ((wsp ad tA σ).set (q - 7) (ad q, .inl (tA (.object C), n, .inr (.inr (.inr (.inr (va_up (fun i => (g i).map ad) x.toNatClampNeg (some (ad u))))))))) → va_S A s.heap H1 locs1 → W p l e R s m args below meth c H1 locs1 cn sn Q (F0 m (pc + 1) ls (r.map (ph ad))) := by
        intro H1 locs1 hP hD hS
        rw [hmp] at hP hD
        exact h ad ls H1 locs1 (hs.wrA hq hwn hs.wst.pop.pop.pop rfl hP hD hS)
      obtain ⟨hc13, hcase⟩ := aOk_of (hs.wh.2 _ _ hu).1 hok2
      have hvu := wsp_get (ad := ad) (tA := tA) hu (hs.wh.ge_obj hu hc13)
      rcases hcase with hcc | ⟨hcc, hca⟩
      · exact va_astq hx hb hC.1 hs.hP hs.hD hs.hS (q - 7) t (u - 7) ci (hs.getA hq) (by rw [tyL_at ht, hcc]) hvu (cl_at ci hc13) hin hdg kk
      · exact va_astqO (E := C) hx hb hC.1 hs.hP hs.hD hs.hS (q - 7) t (u - 7) ci (hs.getA hq) (tyL_at ht) (by rw [hcc]; exact hC.2.1 _ hca) hvu (cl_at ci hc13) hin hdg kk
    · cases e
      have hmp : va_up (fun i => (g i).map ad) x.toNatClampNeg none = fun i => (va_up g x.toNatClampNeg none i).map ad := by
        funext i
        unfold va_up
        split <;> rfl
      refine va_astqN hx hb hC.1 hs.hP hs.hD hs.hS (q - 7) t (hs.getA hq) (tyL_at ht) hin hdg (fun H1 locs1 hP hD hS => ?_)
      rw [hmp] at hP hD
      refine h ad ls H1 locs1 (hs.wrA hq ⟨hwc.1, fun i z hz => ?_⟩ hs.wst.pop.pop.pop rfl hP hD hS)
      unfold va_up at hz
      split at hz
      · cases hz
      · exact hwc.2 i z hz
  case instanceof idx =>
    have := l1 rfl; subst this
    simp only [opOk, Bool.and_eq_true, Bool.not_eq_true'] at hok
    obtain ⟨⟨⟨g1, g2⟩, g3⟩, g4⟩ := hok
    obtain ⟨q, r, rfl, h⟩ := k1r_of h
    obtain ⟨ci, fs, hq, h⟩ := kObj_of h
    obtain ⟨hfam, h⟩ := kB_of h
    have hc13 := isFam_lt hfam
    have hrc := hs.recv hC.1 hq hc13
    have hlk := hE.wd (wAt_ok g4)
    have h2 := h ad ls H locs (hs.stk (wfS.push wfV.int hs.wst.pop))
    cases hi : instB a ci with
    | true =>
      rw [hi] at h2
      rcases instB_of a ci hi with rfl | ⟨rfl, rfl⟩ | ⟨rfl, rfl⟩ | ⟨rfl, rfl⟩
      · exact va_instS hx hb ho hlk (hC.1.1 _ _ (cl_at _ hc13)).2 hrc hdg h2
      · exact va_instY hx hb ho hlk (hC.2.1 (.castable RX4 RX6) (by simp [nwL])) hrc hdg h2
      · exact va_instY hx hb ho hlk (hC.2.1 (.castable RX1 RX0) (by simp [nwL])) hrc hdg h2
      · exact va_instY hx hb ho hlk (hC.2.1 (.castable RX9 RX2) (by simp [nwL])) hrc hdg h2
    | false =>
      rw [hi] at h2
      exact va_instNo hx hb ho hlk (hC.2.2.1 ci a hfam g2 (fun z => by subst z; cases g3) hi) hrc hdg h2
  case invokestatic idx =>
    have := l1 rfl; subst this
    exact step_S hE hcal hR hdg hok hex h hs
  case invokespecial idx =>
    have := l1 rfl; subst this
    exact step_I hE hcal hR hdg hok hex h hs
  case invokevirtual idx =>
    have := l1 rfl; subst this
    exact step_V hE hcal hR hdg hok hex h hs
  case ireturn =>
    have := l1 rfl; subst this
    obtain ⟨x, r, rfl, h⟩ := k1i_of h
    obtain ⟨rfl, h⟩ := kE_of h
    have h := kRet_of h
    obtain ⟨r1, r2, r3, r4⟩ := hret ad ls H locs L _ σ pc cn sn hs hcn hsn
    exact r1 x rfl h.1 h.2 hdg
  case lreturn =>
    have := l1 rfl; subst this
    obtain ⟨x, r, rfl, h⟩ := k1l_of h
    obtain ⟨rfl, h⟩ := kE_of h
    have h := kB_of h
    obtain ⟨r1, r2, r3, r4⟩ := hret ad ls H locs L _ σ pc cn sn hs hcn hsn
    exact r2 x rfl h.1 h.2 hdg
  case areturn =>
    have := l1 rfl; subst this
    obtain ⟨x, r, rfl, h⟩ := k1v_of h
    obtain ⟨rfl, h⟩ := kE_of h
    obtain ⟨h1, h⟩ := kR_of h
    have h := kB_of h
    obtain ⟨r1, r2, r3, r4⟩ := hret ad ls H locs L _ σ pc cn sn hs hcn hsn
    exact r3 x rfl h1 h.1 h.2 hdg
  case return_ =>
    have := l1 rfl; subst this
    obtain ⟨rfl, h⟩ := kE_of h
    have h := kB_of h
    obtain ⟨r1, r2, r3, r4⟩ := hret ad ls H locs L _ σ pc cn sn hs hcn hsn
    exact r4 rfl h.1 h.2 hdg
  all_goals exact h.elim
end ST2
