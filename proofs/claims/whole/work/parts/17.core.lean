/-! CORE: what Wp and Ev say is so of the machine -/
theorem lkE_of : ∀ {l : List En} {pc : Nat} {q : En}, lkE l pc = some q → q ∈ l ∧ q.1 = pc
  | [], _, _, h => by cases h
  | o :: r, pc, q, h => by
    simp only [lkE] at h
    split at h
    · rename_i e
      cases h
      exact ⟨List.mem_cons_self, Nat.eq_of_beq_eq_true e⟩
    · obtain ⟨h1, h2⟩ := lkE_of h
      exact ⟨List.mem_cons_of_mem _ h1, h2⟩
section CORE
variable {p : Program} {l : Launch} {e : Env} {R : Room} {s : State} {m : MethodId} {args : Array Value} {below : List Frame} {meth : Method} {c : Code} {Q : State → Prop}
variable {D : va_G} {tA : FieldType → ClassId} {A : Nat → Prop} {cc : ByteArray} {nL : Nat} {ad0 : Nat → Nat} {n0 : Nat} {Ts : List Cond} {own : String} {y : MethodName} {scr : Option (Nat × (Nat → Int32))}
theorem wp_go (hE : Env0 p l R s m args meth c D tA A cc nL ad0 n0 Ts own y scr) {cal : Cal} (hmono : MonoC cal) (hcal : CalOk l R cal) {bd : Nat × Nat} (hR : R.cells = bd.1 ∧ R.slots = bd.2) {M : MI} {post : Option Value → Hp → Prop} (hret : RetH p l e R s m args below meth c Q D tA A cc nL ad0 n0 M.2.2.2.1 post bd)
    (hT1 : M.2.2.2.2.2.all (enOk y cc nL own) = true) (hT2 : M.2.2.2.2.2.all exOk = true) {q : Cf} (hb : q.2.2.2.2.1 ≤ bd.1 ∧ q.2.2.2.2.2 ≤ bd.2) (h : Wp M cal scr bd post q) : XW p l e R s m args below meth c Q D tA A nL ad0 n0 q := by
  refine h (fun q => (q.2.2.2.2.1 ≤ bd.1 ∧ q.2.2.2.2.2 ≤ bd.2) → XW p l e R s m args below meth c Q D tA A nL ad0 n0 q) (fun q hq hb => ?_) hb
  obtain ⟨pc, L, st, σ, cn, sn⟩ := q
  intro ad ls H locs hs
  dsimp only [stepP] at hq
  split at hq
  · rename_i pc' i len a b d w f k j sw hlk
    obtain ⟨h1, h2⟩ := lkE_of hlk
    have h3 := List.all_eq_true.mp hT1 _ h1
    have h4 := List.all_eq_true.mp hT2 _ h1
    dsimp only at h2 hq
    subst h2
    have hdg : decode cc pc' = .ok (i, len) := by
      have h5 := h3
      simp only [enOk, Bool.and_eq_true, decide_eq_true_eq] at h5
      exact h5.1.1
    exact step_sound hE hcal hR hret hb.1 hb.2 hdg h3 h4 (stepE_bd hmono (fun q' y z => z y) (fun _ _ z => z) hb hq) hs
  · exact hq.elim
end CORE
theorem lv_args_map (ad : Nat → Nat) : ∀ (vs : List Value) (k i : Nat) (v : Value), (i, v) ∈ lv_args k vs → (i, ph ad v) ∈ lv_args k (vs.map (ph ad))
  | [], _, _, _, h => by cases h
  | w :: vs, k, i, v, h => by
    rw [lv_args] at h
    rw [List.map_cons, lv_args, ph_cat]
    rcases List.mem_cons.mp h with h | h
    · cases h; exact List.mem_cons_self
    · exact List.mem_cons_of_mem _ (lv_args_map ad vs _ i v h)
theorem lv_args_mem : ∀ (vs : List Value) (k i : Nat) (v : Value), (i, v) ∈ lv_args k vs → v ∈ vs
  | [], _, _, _, h => by cases h
  | w :: vs, k, i, v, h => by
    rw [lv_args] at h
    rcases List.mem_cons.mp h with h | h
    · cases h; exact List.mem_cons_self
    · exact List.mem_cons_of_mem _ (lv_args_mem vs _ i v h)
theorem lg_sl_map (ad : Nat → Nat) : ∀ (vs : List Value), (lg_sl (vs.map (ph ad))).length = (lg_sl vs).length
  | [] => rfl
  | w :: vs => by
    have h := lg_sl_map ad vs
    simp only [lg_sl, List.map_cons, List.flatMap_cons, List.length_append, ph_cat] at h ⊢
    rw [h]
    split <;> rfl
set_option maxHeartbeats 4000000 in
theorem ev_sound : ∀ (d : Nat) (l : Launch) (R : Room), d + 4 ≤ R.frames → 64 * d + 128 ≤ R.locals → CalOk l R (Ev d)
  | 0, _, _, _, _ => fun _ _ _ _ _ _ h => h.elim
  | d + 1, l, R, hfr, hlo => by
    intro mi mc ms as σ P h
    obtain ⟨M, hM, hlen, hwp⟩ := kO_of h
    have hmem := gM_mem hM
    obtain ⟨hw1, hw2, hown', hplain, h21, hmok, -⟩ := mw_of hmem
    refine ⟨M, { frames := d + 4, cells := mc, slots := ms, locals := 64 * d + 128 }, hM, rfl, rfl, by show d + 4 + 1 ≤ R.frames; omega, by show 8 + (M.2.2.1 + 11) + (64 * d + 128) ≤ R.locals; omega, fun D tA ad sz hwf has => ?_⟩
    refine Met.ofW (cc := M.2.1) (maxL := M.2.2.1) (ret := M.2.2.2.1) hplain rfl ?_
    intro p e s m args below meth c s₁ B hml hv
    obtain ⟨rfl, hsz, hC, hP, hD0, hSx⟩ := hv
    have hts := atoms_spec (ws := wsM M) B.pre
    have hown : s.vm.findClass M.1.cls = some m.cls := findClass_of_methodNamed B.named
    have hname := (name_of_methodNamed B.named B.method).1
    subst hsz
    have hE : Env0 p l { frames := d + 4, cells := mc, slots := ms, locals := 64 * d + 128 } s m (as.map (ph ad)).toArray meth c D tA (va_A (wsp ad tA σ) s.heap.size) M.2.1 M.2.2.1 ad σ.length (wsM M) M.2.2.2.2.1 M.1 none :=
      ⟨B.exec, B.bytes, hml, by rw [hown']; exact hown, hts, fun w hw => List.mem_cons_of_mem _ hw, fun q hq => Or.inr hq, hC, hwf.len, fun z => hname.trans z, hSx, ⟨by show 4 ≤ d + 4; omega, by show 128 ≤ 64 * d + 128; omega⟩, fun n g z => by cases z⟩
    have hcal : CalOk l { frames := d + 4, cells := mc, slots := ms, locals := 64 * d + 128 } (Ev d) := ev_sound d l _ (Nat.le_refl _) (Nat.le_refl _)
    have hr := B.returns
    have hlocks := B.notSynchronized
    have hret : RetH p l e { frames := d + 4, cells := mc, slots := ms, locals := 64 * d + 128 } s m (as.map (ph ad)).toArray below meth c (MQ below (QcG D tA ad σ (va_A (wsp ad tA σ) s.heap.size) P) (as.map (ph ad)).toArray s mc ms (va_A (wsp ad tA σ) s.heap.size)) D tA (va_A (wsp ad tA σ) s.heap.size) M.2.1 M.2.2.1 ad σ.length M.2.2.2.1 P (mc, ms) := by
      intro ad' ls H locs L st σ' pc cn sn hs hcn hsn
      obtain ⟨g1, g2, g3, g4, g5, g6, g7, g8, g9, g10⟩ := hs
      refine ⟨fun x hx hro hp hdg => ?_, fun x hx hro hp hdg => ?_, fun v hx hvr hro hp hdg => ?_, fun hx hro hp hdg => ?_⟩
      · refine W.widen (k := mc) (n := ms) hcn hsn ?_
        obtain ⟨ty, hret, hn⟩ := hro
        exact W.zret B.exec B.bytes (hr.trans hret) hn (fun t ht hW => ⟨⟨some (.int x), σ', ad', rfl, hp, g1, g2, g3, fun z hz => by cases hz; exact wfV.int, by rw [ht]; exact g8, g9⟩, g10.F ht⟩) g10.2.2 hdg
      · refine W.widen (k := mc) (n := ms) hcn hsn ?_
        have hret : M.2.2.2.1 = some .long := by
          unfold rtL at hro
          split at hro
          · rename_i z; exact z
          · cases hro
        exact W.lret B.exec B.bytes (hr.trans hret) (fun t ht hW => ⟨⟨some (.long x), σ', ad', rfl, hp, g1, g2, g3, fun z hz => by cases hz; exact wfV.long, by rw [ht]; exact g8, g9⟩, g10.F ht⟩) g10.2.2 hdg
      · refine W.widen (k := mc) (n := ms) hcn hsn ?_
        have hret : ∃ C, M.2.2.2.1 = some (.object C) := by
          unfold rtA at hro
          split at hro
          · rename_i z; exact ⟨_, z⟩
          · cases hro
        obtain ⟨C, hret⟩ := hret
        refine W.aret B.exec B.bytes (hr.trans hret) (Or.inl ⟨C, rfl⟩) ?_ (fun t ht hW => ⟨⟨some v, σ', ad', rfl, hp, g1, g2, g3, fun z hz => by cases hz; exact g5 v (by rw [hx]; exact List.mem_cons_self), by rw [ht]; exact g8, g9⟩, g10.F ht⟩) g10.2.2 hdg
        rcases hvr with ⟨a, rfl⟩ | rfl
        · exact Or.inr ⟨_, rfl⟩
        · exact Or.inl rfl
      · refine W.widen (k := mc) (n := ms) hcn hsn ?_
        have hret : M.2.2.2.1 = none := by
          unfold rtV at hro
          split at hro
          · rename_i z; exact z
          · cases hro
        exact W.vret B.exec B.bytes (hr.trans hret) (fun t ht hW => ⟨⟨none, σ', ad', rfl, hp, g1, g2, g3, fun z hz => (by cases hz), by rw [ht]; exact g8, g9⟩, g10.F ht⟩) g10.2.2 hdg
    have hent := lv_entry (as.map (ph ad)) (n := M.2.2.1) (by rw [lg_sl_map]; exact hlen)
    rw [lg_entry_eq]
    have hmok2 : M.2.2.2.2.2.all (enOk M.1 M.2.1 M.2.2.1 M.2.2.2.2.1) = true := hmok
    have hex2 := List.all_eq_true.mp ex_ok M hmem
    refine wp_go (Q := _) hE (Ev.mono d) hcal ⟨rfl, rfl⟩ hret hmok2 hex2 ⟨Nat.zero_le _, Nat.zero_le _⟩ hwp ad _ s.heap [] ⟨fun _ _ => rfl, Nat.le_refl _, hwf, fun i v hv => ?_, fun _ hv => absurd hv List.not_mem_nil, entL_len as _ hlen, ⟨hent.1, hent.2.1, fun i v hv => ?_⟩, hP, hD0.self, va_S.rf⟩
    · exact has v (lv_args_mem as 0 _ v (entL_get as _ 0 i v hv))
    · have h1 := entL_get as _ 0 i v hv
      rw [Nat.zero_add] at h1
      exact hent.2.2 (i, ph ad v) (lv_args_map ad as 0 i v h1)
