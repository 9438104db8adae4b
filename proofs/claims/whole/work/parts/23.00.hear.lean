theorem kObj_at {σ : Hp} {a : Nat} {f : Nat → List Value → Prop} {ci : Nat} {fs : List Value} (h : gH σ a = some (.inr (ci, fs))) (k : f ci fs) : kObj σ a f := by
  unfold kObj
  rw [h]
  exact k
def r_X3_memory_h3 (w1 : Int32) (w2 : Int32) (w3 : Int32) (a1 : Int32) (a2 : Int32) : Int32 :=
  a1
set_option maxRecDepth 20000 in
set_option maxHeartbeats 4000000 in
theorem e_X3_memory_h3 (d : Nat) (S : St) (hs : List Hr) (a : Nat) (w1 : Int32) (w2 : Int32) (w3 : Int32) (ha : ∀ S, gH (st S hs) a = some (.inr (3, [.int w1, .int w2, .int w3, .ref 30]))) (a1 : Int32) (a2 : Int32) (P : Option Value → Hp → Prop) (h : P (some (.int (r_X3_memory_h3 w1 w2 w3 a1 a2))) (st S hs)) : Ev (d + 1) ix_X3_memory 0 0 [.ref a, .int a1, .int a2] (st S hs) P := by
  refine Ev.intro (M := mi_X3_memory) rfl (Nat.le_of_ble_eq_true rfl) ?_
  unfold r_X3_memory_h3 at h
  refine Wp.stepsG 2 (fun cal X P' hk hX hP => ?_)
  exact hP _ _ h
def r_X3_whenNew_h3 (w1 : Int32) (w2 : Int32) (w3 : Int32) (a1 : Int32) (a2 : Int32) : Int32 :=
  a1
set_option maxRecDepth 20000 in
set_option maxHeartbeats 4000000 in
theorem e_X3_whenNew_h3 (d : Nat) (S : St) (hs : List Hr) (a : Nat) (w1 : Int32) (w2 : Int32) (w3 : Int32) (ha : ∀ S, gH (st S hs) a = some (.inr (3, [.int w1, .int w2, .int w3, .ref 30]))) (a1 : Int32) (a2 : Int32) (P : Option Value → Hp → Prop) (h : P (some (.int (r_X3_whenNew_h3 w1 w2 w3 a1 a2))) (st S hs)) : Ev (d + 1) ix_X3_whenNew 0 0 [.ref a, .int a1, .int a2] (st S hs) P := by
  refine Ev.intro (M := mi_X3_whenNew) rfl (Nat.le_of_ble_eq_true rfl) ?_
  unfold r_X3_whenNew_h3 at h
  refine Wp.stepsG 2 (fun cal X P' hk hX hP => ?_)
  exact hP _ _ h
def r_X3_whenKnown_h3 (w1 : Int32) (w2 : Int32) (w3 : Int32) (a1 : Int32) (a2 : Int32) : Int32 :=
  -a2
set_option maxRecDepth 20000 in
set_option maxHeartbeats 4000000 in
theorem e_X3_whenKnown_h3 (d : Nat) (S : St) (hs : List Hr) (a : Nat) (w1 : Int32) (w2 : Int32) (w3 : Int32) (ha : ∀ S, gH (st S hs) a = some (.inr (3, [.int w1, .int w2, .int w3, .ref 30]))) (a1 : Int32) (a2 : Int32) (P : Option Value → Hp → Prop) (h : P (some (.int (r_X3_whenKnown_h3 w1 w2 w3 a1 a2))) (st S hs)) : Ev (d + 1) ix_X3_whenKnown 0 0 [.ref a, .int a1, .int a2] (st S hs) P := by
  refine Ev.intro (M := mi_X3_whenKnown) rfl (Nat.le_of_ble_eq_true rfl) ?_
  unfold r_X3_whenKnown_h3 at h
  refine Wp.stepsG 3 (fun cal X P' hk hX hP => ?_)
  exact hP _ _ h
def r_X10_begin_30 (S : St) (a1 : Int32) : Option (Int32 × St) :=
  if 20 ≤ (S.1 30 1) then
    some (0, sI S 30 1 ((S.1 30 1) + 1))
  else
    gd (¬ ((S.1 30 1) < 0 ∨ 20 ≤ (S.1 30 1).toNatClampNeg)) (
      some (0, sI (sA S 31 (upd (S.1 31) (S.1 30 1).toNatClampNeg a1)) 30 1 ((S.1 30 1) + 1)))
set_option maxRecDepth 20000 in
set_option maxHeartbeats 4000000 in
theorem e_X10_begin_30 (d : Nat) (S : St) (hs : List Hr) (a1 : Int32) (v : Int32 × St) (hr : r_X10_begin_30 S a1 = some v) (P : Option Value → Hp → Prop) (h : P none (st v.2 hs)) : Ev (d + 1) ix_X10_begin 0 0 [.ref 30, .int a1] (st S hs) P := by
  refine Ev.intro (M := mi_X10_begin) rfl (Nat.le_of_ble_eq_true rfl) ?_
  unfold r_X10_begin_30 at hr
  refine Wp.stepsG 6 (fun cal X P' hk hX hP => ?_)
  show (20 ≤ (S.1 30 1) → X (22, [some (.ref 30), some (.int a1)], [], st S hs, 0, 0)) ∧ (¬ 20 ≤ (S.1 30 1) → X (12, [some (.ref 30), some (.int a1)], [], st S hs, 0, 0))
  refine ⟨fun hc => hX _ ?_, fun hc => hX _ ?_⟩
  · clear hP hX hk P' X cal
    rw [if_pos hc] at hr
    have hr := Option.some.inj hr
    subst hr
    refine Wp.stepsG 7 (fun cal X P' hk hX hP => ?_)
    exact hP _ _ h
  · clear hP hX hk P' X cal
    rw [if_neg hc] at hr
    refine Wp.stepsG 6 (fun cal X P' hk hX hP => ?_)
    show vp_in (S.1 30 1) 20 ∧ X (22, [some (.ref 30), some (.int a1)], [], st (sA S 31 (upd (S.1 31) (S.1 30 1).toNatClampNeg a1)) hs, 0, 0)
    obtain ⟨hg, hr⟩ := gd_some hr
    refine ⟨hg, hX _ ?_⟩
    clear hP hX hk P' X cal
    have hr := Option.some.inj hr
    subst hr
    refine Wp.stepsG 7 (fun cal X P' hk hX hP => ?_)
    exact hP _ _ h
def r_X3_hears_h3 (S : St) (w1 : Int32) (w2 : Int32) (w3 : Int32) (a1 : Int32) : Option (Int32 × St) :=
  (r_X10_begin_30 S 10).bind fun q1 =>
  some (a1 + w2, q1.2)
set_option maxRecDepth 20000 in
set_option maxHeartbeats 4000000 in
theorem e_X3_hears_h3 (d : Nat) (S : St) (hs : List Hr) (a : Nat) (w1 : Int32) (w2 : Int32) (w3 : Int32) (ha : ∀ S, gH (st S hs) a = some (.inr (3, [.int w1, .int w2, .int w3, .ref 30]))) (a1 : Int32) (v : Int32 × St) (hr : r_X3_hears_h3 S w1 w2 w3 a1 = some v) (P : Option Value → Hp → Prop) (h : P (some (.int v.1)) (st v.2 hs)) : Ev (d + 2) ix_X3_hears 0 0 [.ref a, .int a1] (st S hs) P := by
  refine Ev.intro (M := mi_X3_hears) rfl (Nat.le_of_ble_eq_true rfl) ?_
  unfold r_X3_hears_h3 at hr
  refine Wp.stepsG 2 (fun cal X P' hk hX hP => ?_)
  refine kObj_at (ha _) ?_
  show X (4, [some (.ref a), some (.int a1)], [.ref 30], st S hs, 0, 0)
  refine hX _ ?_
  clear hP hX hk P' X cal
  refine Wp.stepsG 2 (fun cal X P' hk hX hP => ?_)
  show kcall cal ix_X10_begin [.ref 30, .int 10] (st S hs) [] 0 0 (0, 0) (fun v σ' c' m' => X (9, [some (.ref a), some (.int a1)], v.toList ++ [], σ', c', m'))
  obtain ⟨q1, hq1, hr⟩ := bd_some hr
  refine kcall0 rfl (hk _ _ _ _ _ _ (e_X10_begin_30 (d + 0) S hs 10 q1 hq1 _ ?_))
  show X (9, [some (.ref a), some (.int a1)], [], st q1.2 hs, 0, 0)
  refine hX _ ?_
  clear hP hX hk P' X cal
  refine Wp.stepsG 3 (fun cal X P' hk hX hP => ?_)
  refine kObj_at (ha _) ?_
  show X (14, [some (.ref a), some (.int a1)], [.int w2, .int a1], st q1.2 hs, 0, 0)
  refine hX _ ?_
  clear hP hX hk P' X cal
  have hr := Option.some.inj hr
  subst hr
  refine Wp.stepsG 2 (fun cal X P' hk hX hP => ?_)
  exact hP _ _ h
def r_X3_laughs_h3 (S : St) (w1 : Int32) (w2 : Int32) (w3 : Int32) (a1 : Int32) : Option (Int32 × St) :=
  (r_X10_begin_30 S 11).bind fun q1 =>
  (r_X3_hears_h3 q1.2 w1 w2 w3 a1).bind fun q2 =>
  some (q2.1 - w3, q2.2)
set_option maxRecDepth 20000 in
set_option maxHeartbeats 4000000 in
theorem e_X3_laughs_h3 (d : Nat) (S : St) (hs : List Hr) (a : Nat) (w1 : Int32) (w2 : Int32) (w3 : Int32) (ha : ∀ S, gH (st S hs) a = some (.inr (3, [.int w1, .int w2, .int w3, .ref 30]))) (a1 : Int32) (v : Int32 × St) (hr : r_X3_laughs_h3 S w1 w2 w3 a1 = some v) (P : Option Value → Hp → Prop) (h : P (some (.int v.1)) (st v.2 hs)) : Ev (d + 3) ix_X3_laughs 0 0 [.ref a, .int a1] (st S hs) P := by
  refine Ev.intro (M := mi_X3_laughs) rfl (Nat.le_of_ble_eq_true rfl) ?_
  unfold r_X3_laughs_h3 at hr
  refine Wp.stepsG 2 (fun cal X P' hk hX hP => ?_)
  refine kObj_at (ha _) ?_
  show X (4, [some (.ref a), some (.int a1)], [.ref 30], st S hs, 0, 0)
  refine hX _ ?_
  clear hP hX hk P' X cal
  refine Wp.stepsG 2 (fun cal X P' hk hX hP => ?_)
  show kcall cal ix_X10_begin [.ref 30, .int 11] (st S hs) [] 0 0 (0, 0) (fun v σ' c' m' => X (9, [some (.ref a), some (.int a1)], v.toList ++ [], σ', c', m'))
  obtain ⟨q1, hq1, hr⟩ := bd_some hr
  refine kcall0 rfl (hk _ _ _ _ _ _ (e_X10_begin_30 (d + 1) S hs 11 q1 hq1 _ ?_))
  show X (9, [some (.ref a), some (.int a1)], [], st q1.2 hs, 0, 0)
  refine hX _ ?_
  clear hP hX hk P' X cal
  refine Wp.stepsG 3 (fun cal X P' hk hX hP => ?_)
  refine kObj_at (ha _) ?_
  show kcall cal ix_X3_hears [.ref a, .int a1] (st q1.2 hs) [] 0 0 (0, 0) (fun v σ' c' m' => X (14, [some (.ref a), some (.int a1)], v.toList ++ [], σ', c', m'))
  obtain ⟨q2, hq2, hr⟩ := bd_some hr
  refine kcall0 rfl (hk _ _ _ _ _ _ (e_X3_hears_h3 (d + 0) q1.2 hs a w1 w2 w3 ha a1 q2 hq2 _ ?_))
  show X (14, [some (.ref a), some (.int a1)], [.int q2.1], st q2.2 hs, 0, 0)
  refine hX _ ?_
  clear hP hX hk P' X cal
  refine Wp.stepsG 2 (fun cal X P' hk hX hP => ?_)
  refine kObj_at (ha _) ?_
  show X (18, [some (.ref a), some (.int a1)], [.int w3, .int q2.1], st q2.2 hs, 0, 0)
  refine hX _ ?_
  clear hP hX hk P' X cal
  have hr := Option.some.inj hr
  subst hr
  refine Wp.stepsG 2 (fun cal X P' hk hX hP => ?_)
  exact hP _ _ h
def r_X3_tells_h3 (S : St) (w1 : Int32) (w2 : Int32) (w3 : Int32) (a1 : Int32) : Option (Int32 × St) :=
  (r_X10_begin_30 S 12).bind fun q1 =>
  (r_X3_laughs_h3 q1.2 w1 w2 w3 a1).bind fun q2 =>
  some (q2.1 * 2, q2.2)
set_option maxRecDepth 20000 in
set_option maxHeartbeats 4000000 in
theorem e_X3_tells_h3 (d : Nat) (S : St) (hs : List Hr) (a : Nat) (w1 : Int32) (w2 : Int32) (w3 : Int32) (ha : ∀ S, gH (st S hs) a = some (.inr (3, [.int w1, .int w2, .int w3, .ref 30]))) (a1 : Int32) (v : Int32 × St) (hr : r_X3_tells_h3 S w1 w2 w3 a1 = some v) (P : Option Value → Hp → Prop) (h : P (some (.int v.1)) (st v.2 hs)) : Ev (d + 4) ix_X3_tells 0 0 [.ref a, .int a1] (st S hs) P := by
  refine Ev.intro (M := mi_X3_tells) rfl (Nat.le_of_ble_eq_true rfl) ?_
  unfold r_X3_tells_h3 at hr
  refine Wp.stepsG 2 (fun cal X P' hk hX hP => ?_)
  refine kObj_at (ha _) ?_
  show X (4, [some (.ref a), some (.int a1)], [.ref 30], st S hs, 0, 0)
  refine hX _ ?_
  clear hP hX hk P' X cal
  refine Wp.stepsG 2 (fun cal X P' hk hX hP => ?_)
  show kcall cal ix_X10_begin [.ref 30, .int 12] (st S hs) [] 0 0 (0, 0) (fun v σ' c' m' => X (9, [some (.ref a), some (.int a1)], v.toList ++ [], σ', c', m'))
  obtain ⟨q1, hq1, hr⟩ := bd_some hr
  refine kcall0 rfl (hk _ _ _ _ _ _ (e_X10_begin_30 (d + 2) S hs 12 q1 hq1 _ ?_))
  show X (9, [some (.ref a), some (.int a1)], [], st q1.2 hs, 0, 0)
  refine hX _ ?_
  clear hP hX hk P' X cal
  refine Wp.stepsG 3 (fun cal X P' hk hX hP => ?_)
  refine kObj_at (ha _) ?_
  show kcall cal ix_X3_laughs [.ref a, .int a1] (st q1.2 hs) [] 0 0 (0, 0) (fun v σ' c' m' => X (14, [some (.ref a), some (.int a1)], v.toList ++ [], σ', c', m'))
  obtain ⟨q2, hq2, hr⟩ := bd_some hr
  refine kcall0 rfl (hk _ _ _ _ _ _ (e_X3_laughs_h3 (d + 0) q1.2 hs a w1 w2 w3 ha a1 q2 hq2 _ ?_))
  show X (14, [some (.ref a), some (.int a1)], [.int q2.1], st q2.2 hs, 0, 0)
  refine hX _ ?_
  clear hP hX hk P' X cal
  have hr := Option.some.inj hr
  subst hr
  refine Wp.stepsG 3 (fun cal X P' hk hX hP => ?_)
  exact hP _ _ h
def r_X3_memory_h6 (w1 : Int32) (w2 : Int32) (w3 : Int32) (a1 : Int32) (a2 : Int32) : Int32 :=
  a1
set_option maxRecDepth 20000 in
set_option maxHeartbeats 4000000 in
theorem e_X3_memory_h6 (d : Nat) (S : St) (hs : List Hr) (a : Nat) (w1 : Int32) (w2 : Int32) (w3 : Int32) (ha : ∀ S, gH (st S hs) a = some (.inr (6, [.int w1, .int w2, .int w3, .ref 30]))) (a1 : Int32) (a2 : Int32) (P : Option Value → Hp → Prop) (h : P (some (.int (r_X3_memory_h6 w1 w2 w3 a1 a2))) (st S hs)) : Ev (d + 1) ix_X3_memory 0 0 [.ref a, .int a1, .int a2] (st S hs) P := by
  refine Ev.intro (M := mi_X3_memory) rfl (Nat.le_of_ble_eq_true rfl) ?_
  unfold r_X3_memory_h6 at h
  refine Wp.stepsG 2 (fun cal X P' hk hX hP => ?_)
  exact hP _ _ h
def r_X3_whenNew_h6 (w1 : Int32) (w2 : Int32) (w3 : Int32) (a1 : Int32) (a2 : Int32) : Int32 :=
  a1
set_option maxRecDepth 20000 in
set_option maxHeartbeats 4000000 in
theorem e_X3_whenNew_h6 (d : Nat) (S : St) (hs : List Hr) (a : Nat) (w1 : Int32) (w2 : Int32) (w3 : Int32) (ha : ∀ S, gH (st S hs) a = some (.inr (6, [.int w1, .int w2, .int w3, .ref 30]))) (a1 : Int32) (a2 : Int32) (P : Option Value → Hp → Prop) (h : P (some (.int (r_X3_whenNew_h6 w1 w2 w3 a1 a2))) (st S hs)) : Ev (d + 1) ix_X3_whenNew 0 0 [.ref a, .int a1, .int a2] (st S hs) P := by
  refine Ev.intro (M := mi_X3_whenNew) rfl (Nat.le_of_ble_eq_true rfl) ?_
  unfold r_X3_whenNew_h6 at h
  refine Wp.stepsG 2 (fun cal X P' hk hX hP => ?_)
  exact hP _ _ h
def r_X6_whenKnown_h6 (w1 : Int32) (w2 : Int32) (w3 : Int32) (a1 : Int32) (a2 : Int32) : Int32 :=
  0
set_option maxRecDepth 20000 in
set_option maxHeartbeats 4000000 in
theorem e_X6_whenKnown_h6 (d : Nat) (S : St) (hs : List Hr) (a : Nat) (w1 : Int32) (w2 : Int32) (w3 : Int32) (ha : ∀ S, gH (st S hs) a = some (.inr (6, [.int w1, .int w2, .int w3, .ref 30]))) (a1 : Int32) (a2 : Int32) (P : Option Value → Hp → Prop) (h : P (some (.int (r_X6_whenKnown_h6 w1 w2 w3 a1 a2))) (st S hs)) : Ev (d + 1) ix_X6_whenKnown 0 0 [.ref a, .int a1, .int a2] (st S hs) P := by
  refine Ev.intro (M := mi_X6_whenKnown) rfl (Nat.le_of_ble_eq_true rfl) ?_
  unfold r_X6_whenKnown_h6 at h
  refine Wp.stepsG 2 (fun cal X P' hk hX hP => ?_)
  exact hP _ _ h
def r_X3_hears_h6 (S : St) (w1 : Int32) (w2 : Int32) (w3 : Int32) (a1 : Int32) : Option (Int32 × St) :=
  (r_X10_begin_30 S 10).bind fun q1 =>
  some (a1 + w2, q1.2)
set_option maxRecDepth 20000 in
set_option maxHeartbeats 4000000 in
theorem e_X3_hears_h6 (d : Nat) (S : St) (hs : List Hr) (a : Nat) (w1 : Int32) (w2 : Int32) (w3 : Int32) (ha : ∀ S, gH (st S hs) a = some (.inr (6, [.int w1, .int w2, .int w3, .ref 30]))) (a1 : Int32) (v : Int32 × St) (hr : r_X3_hears_h6 S w1 w2 w3 a1 = some v) (P : Option Value → Hp → Prop) (h : P (some (.int v.1)) (st v.2 hs)) : Ev (d + 2) ix_X3_hears 0 0 [.ref a, .int a1] (st S hs) P := by
  refine Ev.intro (M := mi_X3_hears) rfl (Nat.le_of_ble_eq_true rfl) ?_
  unfold r_X3_hears_h6 at hr
  refine Wp.stepsG 2 (fun cal X P' hk hX hP => ?_)
  refine kObj_at (ha _) ?_
  show X (4, [some (.ref a), some (.int a1)], [.ref 30], st S hs, 0, 0)
  refine hX _ ?_
  clear hP hX hk P' X cal
  refine Wp.stepsG 2 (fun cal X P' hk hX hP => ?_)
  show kcall cal ix_X10_begin [.ref 30, .int 10] (st S hs) [] 0 0 (0, 0) (fun v σ' c' m' => X (9, [some (.ref a), some (.int a1)], v.toList ++ [], σ', c', m'))
  obtain ⟨q1, hq1, hr⟩ := bd_some hr
  refine kcall0 rfl (hk _ _ _ _ _ _ (e_X10_begin_30 (d + 0) S hs 10 q1 hq1 _ ?_))
  show X (9, [some (.ref a), some (.int a1)], [], st q1.2 hs, 0, 0)
  refine hX _ ?_
  clear hP hX hk P' X cal
  refine Wp.stepsG 3 (fun cal X P' hk hX hP => ?_)
  refine kObj_at (ha _) ?_
  show X (14, [some (.ref a), some (.int a1)], [.int w2, .int a1], st q1.2 hs, 0, 0)
  refine hX _ ?_
  clear hP hX hk P' X cal
  have hr := Option.some.inj hr
  subst hr
  refine Wp.stepsG 2 (fun cal X P' hk hX hP => ?_)
  exact hP _ _ h
def r_X3_laughs_h6 (S : St) (w1 : Int32) (w2 : Int32) (w3 : Int32) (a1 : Int32) : Option (Int32 × St) :=
  (r_X10_begin_30 S 11).bind fun q1 =>
  (r_X3_hears_h6 q1.2 w1 w2 w3 a1).bind fun q2 =>
  some (q2.1 - w3, q2.2)
set_option maxRecDepth 20000 in
set_option maxHeartbeats 4000000 in
theorem e_X3_laughs_h6 (d : Nat) (S : St) (hs : List Hr) (a : Nat) (w1 : Int32) (w2 : Int32) (w3 : Int32) (ha : ∀ S, gH (st S hs) a = some (.inr (6, [.int w1, .int w2, .int w3, .ref 30]))) (a1 : Int32) (v : Int32 × St) (hr : r_X3_laughs_h6 S w1 w2 w3 a1 = some v) (P : Option Value → Hp → Prop) (h : P (some (.int v.1)) (st v.2 hs)) : Ev (d + 3) ix_X3_laughs 0 0 [.ref a, .int a1] (st S hs) P := by
  refine Ev.intro (M := mi_X3_laughs) rfl (Nat.le_of_ble_eq_true rfl) ?_
  unfold r_X3_laughs_h6 at hr
  refine Wp.stepsG 2 (fun cal X P' hk hX hP => ?_)
  refine kObj_at (ha _) ?_
  show X (4, [some (.ref a), some (.int a1)], [.ref 30], st S hs, 0, 0)
  refine hX _ ?_
  clear hP hX hk P' X cal
  refine Wp.stepsG 2 (fun cal X P' hk hX hP => ?_)
  show kcall cal ix_X10_begin [.ref 30, .int 11] (st S hs) [] 0 0 (0, 0) (fun v σ' c' m' => X (9, [some (.ref a), some (.int a1)], v.toList ++ [], σ', c', m'))
  obtain ⟨q1, hq1, hr⟩ := bd_some hr
  refine kcall0 rfl (hk _ _ _ _ _ _ (e_X10_begin_30 (d + 1) S hs 11 q1 hq1 _ ?_))
  show X (9, [some (.ref a), some (.int a1)], [], st q1.2 hs, 0, 0)
  refine hX _ ?_
  clear hP hX hk P' X cal
  refine Wp.stepsG 3 (fun cal X P' hk hX hP => ?_)
  refine kObj_at (ha _) ?_
  show kcall cal ix_X3_hears [.ref a, .int a1] (st q1.2 hs) [] 0 0 (0, 0) (fun v σ' c' m' => X (14, [some (.ref a), some (.int a1)], v.toList ++ [], σ', c', m'))
  obtain ⟨q2, hq2, hr⟩ := bd_some hr
  refine kcall0 rfl (hk _ _ _ _ _ _ (e_X3_hears_h6 (d + 0) q1.2 hs a w1 w2 w3 ha a1 q2 hq2 _ ?_))
  show X (14, [some (.ref a), some (.int a1)], [.int q2.1], st q2.2 hs, 0, 0)
  refine hX _ ?_
  clear hP hX hk P' X cal
  refine Wp.stepsG 2 (fun cal X P' hk hX hP => ?_)
  refine kObj_at (ha _) ?_
  show X (18, [some (.ref a), some (.int a1)], [.int w3, .int q2.1], st q2.2 hs, 0, 0)
  refine hX _ ?_
  clear hP hX hk P' X cal
  have hr := Option.some.inj hr
  subst hr
  refine Wp.stepsG 2 (fun cal X P' hk hX hP => ?_)
  exact hP _ _ h
def r_X6_laughs_h6 (S : St) (w1 : Int32) (w2 : Int32) (w3 : Int32) (a1 : Int32) : Option (Int32 × St) :=
  (r_X10_begin_30 S 20).bind fun q1 =>
  (r_X3_laughs_h6 q1.2 w1 w2 w3 a1).bind fun q2 =>
  some (q2.1 ^^^ 6, q2.2)
set_option maxRecDepth 20000 in
set_option maxHeartbeats 4000000 in
theorem e_X6_laughs_h6 (d : Nat) (S : St) (hs : List Hr) (a : Nat) (w1 : Int32) (w2 : Int32) (w3 : Int32) (ha : ∀ S, gH (st S hs) a = some (.inr (6, [.int w1, .int w2, .int w3, .ref 30]))) (a1 : Int32) (v : Int32 × St) (hr : r_X6_laughs_h6 S w1 w2 w3 a1 = some v) (P : Option Value → Hp → Prop) (h : P (some (.int v.1)) (st v.2 hs)) : Ev (d + 4) ix_X6_laughs 0 0 [.ref a, .int a1] (st S hs) P := by
  refine Ev.intro (M := mi_X6_laughs) rfl (Nat.le_of_ble_eq_true rfl) ?_
  unfold r_X6_laughs_h6 at hr
  refine Wp.stepsG 2 (fun cal X P' hk hX hP => ?_)
  refine kObj_at (ha _) ?_
  show X (4, [some (.ref a), some (.int a1)], [.ref 30], st S hs, 0, 0)
  refine hX _ ?_
  clear hP hX hk P' X cal
  refine Wp.stepsG 2 (fun cal X P' hk hX hP => ?_)
  show kcall cal ix_X10_begin [.ref 30, .int 20] (st S hs) [] 0 0 (0, 0) (fun v σ' c' m' => X (9, [some (.ref a), some (.int a1)], v.toList ++ [], σ', c', m'))
  obtain ⟨q1, hq1, hr⟩ := bd_some hr
  refine kcall0 rfl (hk _ _ _ _ _ _ (e_X10_begin_30 (d + 2) S hs 20 q1 hq1 _ ?_))
  show X (9, [some (.ref a), some (.int a1)], [], st q1.2 hs, 0, 0)
  refine hX _ ?_
  clear hP hX hk P' X cal
  refine Wp.stepsG 3 (fun cal X P' hk hX hP => ?_)
  refine kObj_at (ha _) ?_
  show kcall cal ix_X3_laughs [.ref a, .int a1] (st q1.2 hs) [] 0 0 (0, 0) (fun v σ' c' m' => X (14, [some (.ref a), some (.int a1)], v.toList ++ [], σ', c', m'))
  obtain ⟨q2, hq2, hr⟩ := bd_some hr
  refine kcall0 rfl (hk _ _ _ _ _ _ (e_X3_laughs_h6 (d + 0) q1.2 hs a w1 w2 w3 ha a1 q2 hq2 _ ?_))
  show X (14, [some (.ref a), some (.int a1)], [.int q2.1], st q2.2 hs, 0, 0)
  refine hX _ ?_
  clear hP hX hk P' X cal
  have hr := Option.some.inj hr
  subst hr
  refine Wp.stepsG 3 (fun cal X P' hk hX hP => ?_)
  exact hP _ _ h
def r_X3_tells_h6 (S : St) (w1 : Int32) (w2 : Int32) (w3 : Int32) (a1 : Int32) : Option (Int32 × St) :=
  (r_X10_begin_30 S 12).bind fun q1 =>
  (r_X6_laughs_h6 q1.2 w1 w2 w3 a1).bind fun q2 =>
  some (q2.1 * 2, q2.2)
set_option maxRecDepth 20000 in
set_option maxHeartbeats 4000000 in
theorem e_X3_tells_h6 (d : Nat) (S : St) (hs : List Hr) (a : Nat) (w1 : Int32) (w2 : Int32) (w3 : Int32) (ha : ∀ S, gH (st S hs) a = some (.inr (6, [.int w1, .int w2, .int w3, .ref 30]))) (a1 : Int32) (v : Int32 × St) (hr : r_X3_tells_h6 S w1 w2 w3 a1 = some v) (P : Option Value → Hp → Prop) (h : P (some (.int v.1)) (st v.2 hs)) : Ev (d + 5) ix_X3_tells 0 0 [.ref a, .int a1] (st S hs) P := by
  refine Ev.intro (M := mi_X3_tells) rfl (Nat.le_of_ble_eq_true rfl) ?_
  unfold r_X3_tells_h6 at hr
  refine Wp.stepsG 2 (fun cal X P' hk hX hP => ?_)
  refine kObj_at (ha _) ?_
  show X (4, [some (.ref a), some (.int a1)], [.ref 30], st S hs, 0, 0)
  refine hX _ ?_
  clear hP hX hk P' X cal
  refine Wp.stepsG 2 (fun cal X P' hk hX hP => ?_)
  show kcall cal ix_X10_begin [.ref 30, .int 12] (st S hs) [] 0 0 (0, 0) (fun v σ' c' m' => X (9, [some (.ref a), some (.int a1)], v.toList ++ [], σ', c', m'))
  obtain ⟨q1, hq1, hr⟩ := bd_some hr
  refine kcall0 rfl (hk _ _ _ _ _ _ (e_X10_begin_30 (d + 3) S hs 12 q1 hq1 _ ?_))
  show X (9, [some (.ref a), some (.int a1)], [], st q1.2 hs, 0, 0)
  refine hX _ ?_
  clear hP hX hk P' X cal
  refine Wp.stepsG 3 (fun cal X P' hk hX hP => ?_)
  refine kObj_at (ha _) ?_
  show kcall cal ix_X6_laughs [.ref a, .int a1] (st q1.2 hs) [] 0 0 (0, 0) (fun v σ' c' m' => X (14, [some (.ref a), some (.int a1)], v.toList ++ [], σ', c', m'))
  obtain ⟨q2, hq2, hr⟩ := bd_some hr
  refine kcall0 rfl (hk _ _ _ _ _ _ (e_X6_laughs_h6 (d + 0) q1.2 hs a w1 w2 w3 ha a1 q2 hq2 _ ?_))
  show X (14, [some (.ref a), some (.int a1)], [.int q2.1], st q2.2 hs, 0, 0)
  refine hX _ ?_
  clear hP hX hk P' X cal
  have hr := Option.some.inj hr
  subst hr
  refine Wp.stepsG 3 (fun cal X P' hk hX hP => ?_)
  exact hP _ _ h
def r_X3_memory_h0 (w1 : Int32) (w2 : Int32) (w3 : Int32) (a1 : Int32) (a2 : Int32) : Int32 :=
  a1
set_option maxRecDepth 20000 in
set_option maxHeartbeats 4000000 in
theorem e_X3_memory_h0 (d : Nat) (S : St) (hs : List Hr) (a : Nat) (w1 : Int32) (w2 : Int32) (w3 : Int32) (ha : ∀ S, gH (st S hs) a = some (.inr (0, [.int w1, .int w2, .int w3, .ref 30]))) (a1 : Int32) (a2 : Int32) (P : Option Value → Hp → Prop) (h : P (some (.int (r_X3_memory_h0 w1 w2 w3 a1 a2))) (st S hs)) : Ev (d + 1) ix_X3_memory 0 0 [.ref a, .int a1, .int a2] (st S hs) P := by
  refine Ev.intro (M := mi_X3_memory) rfl (Nat.le_of_ble_eq_true rfl) ?_
  unfold r_X3_memory_h0 at h
  refine Wp.stepsG 2 (fun cal X P' hk hX hP => ?_)
  exact hP _ _ h
def r_X0_whenNew_h0 (w1 : Int32) (w2 : Int32) (w3 : Int32) (a1 : Int32) (a2 : Int32) : Int32 :=
  a1 - a2
set_option maxRecDepth 20000 in
set_option maxHeartbeats 4000000 in
theorem e_X0_whenNew_h0 (d : Nat) (S : St) (hs : List Hr) (a : Nat) (w1 : Int32) (w2 : Int32) (w3 : Int32) (ha : ∀ S, gH (st S hs) a = some (.inr (0, [.int w1, .int w2, .int w3, .ref 30]))) (a1 : Int32) (a2 : Int32) (P : Option Value → Hp → Prop) (h : P (some (.int (r_X0_whenNew_h0 w1 w2 w3 a1 a2))) (st S hs)) : Ev (d + 1) ix_X0_whenNew 0 0 [.ref a, .int a1, .int a2] (st S hs) P := by
  refine Ev.intro (M := mi_X0_whenNew) rfl (Nat.le_of_ble_eq_true rfl) ?_
  unfold r_X0_whenNew_h0 at h
  refine Wp.stepsG 4 (fun cal X P' hk hX hP => ?_)
  exact hP _ _ h
def r_X0_whenKnown_h0 (w1 : Int32) (w2 : Int32) (w3 : Int32) (a1 : Int32) (a2 : Int32) : Int32 :=
  ((-2) : Int32) * a2
set_option maxRecDepth 20000 in
set_option maxHeartbeats 4000000 in
theorem e_X0_whenKnown_h0 (d : Nat) (S : St) (hs : List Hr) (a : Nat) (w1 : Int32) (w2 : Int32) (w3 : Int32) (ha : ∀ S, gH (st S hs) a = some (.inr (0, [.int w1, .int w2, .int w3, .ref 30]))) (a1 : Int32) (a2 : Int32) (P : Option Value → Hp → Prop) (h : P (some (.int (r_X0_whenKnown_h0 w1 w2 w3 a1 a2))) (st S hs)) : Ev (d + 1) ix_X0_whenKnown 0 0 [.ref a, .int a1, .int a2] (st S hs) P := by
  refine Ev.intro (M := mi_X0_whenKnown) rfl (Nat.le_of_ble_eq_true rfl) ?_
  unfold r_X0_whenKnown_h0 at h
  refine Wp.stepsG 4 (fun cal X P' hk hX hP => ?_)
  exact hP _ _ h
def r_X3_hears_h0 (S : St) (w1 : Int32) (w2 : Int32) (w3 : Int32) (a1 : Int32) : Option (Int32 × St) :=
  (r_X10_begin_30 S 10).bind fun q1 =>
  some (a1 + w2, q1.2)
set_option maxRecDepth 20000 in
set_option maxHeartbeats 4000000 in
theorem e_X3_hears_h0 (d : Nat) (S : St) (hs : List Hr) (a : Nat) (w1 : Int32) (w2 : Int32) (w3 : Int32) (ha : ∀ S, gH (st S hs) a = some (.inr (0, [.int w1, .int w2, .int w3, .ref 30]))) (a1 : Int32) (v : Int32 × St) (hr : r_X3_hears_h0 S w1 w2 w3 a1 = some v) (P : Option Value → Hp → Prop) (h : P (some (.int v.1)) (st v.2 hs)) : Ev (d + 2) ix_X3_hears 0 0 [.ref a, .int a1] (st S hs) P := by
  refine Ev.intro (M := mi_X3_hears) rfl (Nat.le_of_ble_eq_true rfl) ?_
  unfold r_X3_hears_h0 at hr
  refine Wp.stepsG 2 (fun cal X P' hk hX hP => ?_)
  refine kObj_at (ha _) ?_
  show X (4, [some (.ref a), some (.int a1)], [.ref 30], st S hs, 0, 0)
  refine hX _ ?_
  clear hP hX hk P' X cal
  refine Wp.stepsG 2 (fun cal X P' hk hX hP => ?_)
  show kcall cal ix_X10_begin [.ref 30, .int 10] (st S hs) [] 0 0 (0, 0) (fun v σ' c' m' => X (9, [some (.ref a), some (.int a1)], v.toList ++ [], σ', c', m'))
  obtain ⟨q1, hq1, hr⟩ := bd_some hr
  refine kcall0 rfl (hk _ _ _ _ _ _ (e_X10_begin_30 (d + 0) S hs 10 q1 hq1 _ ?_))
  show X (9, [some (.ref a), some (.int a1)], [], st q1.2 hs, 0, 0)
  refine hX _ ?_
  clear hP hX hk P' X cal
  refine Wp.stepsG 3 (fun cal X P' hk hX hP => ?_)
  refine kObj_at (ha _) ?_
  show X (14, [some (.ref a), some (.int a1)], [.int w2, .int a1], st q1.2 hs, 0, 0)
  refine hX _ ?_
  clear hP hX hk P' X cal
  have hr := Option.some.inj hr
  subst hr
  refine Wp.stepsG 2 (fun cal X P' hk hX hP => ?_)
  exact hP _ _ h
def r_X0_hears_h0 (S : St) (w1 : Int32) (w2 : Int32) (w3 : Int32) (a1 : Int32) : Option (Int32 × St) :=
  (r_X10_begin_30 S 30).bind fun q1 =>
  (r_X3_hears_h0 q1.2 w1 w2 w3 (a1 * 3)).bind fun q2 =>
  some (q2.1, q2.2)
set_option maxRecDepth 20000 in
set_option maxHeartbeats 4000000 in
theorem e_X0_hears_h0 (d : Nat) (S : St) (hs : List Hr) (a : Nat) (w1 : Int32) (w2 : Int32) (w3 : Int32) (ha : ∀ S, gH (st S hs) a = some (.inr (0, [.int w1, .int w2, .int w3, .ref 30]))) (a1 : Int32) (v : Int32 × St) (hr : r_X0_hears_h0 S w1 w2 w3 a1 = some v) (P : Option Value → Hp → Prop) (h : P (some (.int v.1)) (st v.2 hs)) : Ev (d + 3) ix_X0_hears 0 0 [.ref a, .int a1] (st S hs) P := by
  refine Ev.intro (M := mi_X0_hears) rfl (Nat.le_of_ble_eq_true rfl) ?_
  unfold r_X0_hears_h0 at hr
  refine Wp.stepsG 2 (fun cal X P' hk hX hP => ?_)
  refine kObj_at (ha _) ?_
  show X (4, [some (.ref a), some (.int a1)], [.ref 30], st S hs, 0, 0)
  refine hX _ ?_
  clear hP hX hk P' X cal
  refine Wp.stepsG 2 (fun cal X P' hk hX hP => ?_)
  show kcall cal ix_X10_begin [.ref 30, .int 30] (st S hs) [] 0 0 (0, 0) (fun v σ' c' m' => X (9, [some (.ref a), some (.int a1)], v.toList ++ [], σ', c', m'))
  obtain ⟨q1, hq1, hr⟩ := bd_some hr
  refine kcall0 rfl (hk _ _ _ _ _ _ (e_X10_begin_30 (d + 1) S hs 30 q1 hq1 _ ?_))
  show X (9, [some (.ref a), some (.int a1)], [], st q1.2 hs, 0, 0)
  refine hX _ ?_
  clear hP hX hk P' X cal
  refine Wp.stepsG 5 (fun cal X P' hk hX hP => ?_)
  refine kObj_at (ha _) ?_
  show kcall cal ix_X3_hears [.ref a, .int (a1 * 3)] (st q1.2 hs) [] 0 0 (0, 0) (fun v σ' c' m' => X (16, [some (.ref a), some (.int a1)], v.toList ++ [], σ', c', m'))
  obtain ⟨q2, hq2, hr⟩ := bd_some hr
  refine kcall0 rfl (hk _ _ _ _ _ _ (e_X3_hears_h0 (d + 0) q1.2 hs a w1 w2 w3 ha (a1 * 3) q2 hq2 _ ?_))
  show X (16, [some (.ref a), some (.int a1)], [.int q2.1], st q2.2 hs, 0, 0)
  refine hX _ ?_
  clear hP hX hk P' X cal
  have hr := Option.some.inj hr
  subst hr
  refine Wp.stepsG 1 (fun cal X P' hk hX hP => ?_)
  exact hP _ _ h
def r_X3_laughs_h0 (S : St) (w1 : Int32) (w2 : Int32) (w3 : Int32) (a1 : Int32) : Option (Int32 × St) :=
  (r_X10_begin_30 S 11).bind fun q1 =>
  (r_X0_hears_h0 q1.2 w1 w2 w3 a1).bind fun q2 =>
  some (q2.1 - w3, q2.2)
set_option maxRecDepth 20000 in
set_option maxHeartbeats 4000000 in
theorem e_X3_laughs_h0 (d : Nat) (S : St) (hs : List Hr) (a : Nat) (w1 : Int32) (w2 : Int32) (w3 : Int32) (ha : ∀ S, gH (st S hs) a = some (.inr (0, [.int w1, .int w2, .int w3, .ref 30]))) (a1 : Int32) (v : Int32 × St) (hr : r_X3_laughs_h0 S w1 w2 w3 a1 = some v) (P : Option Value → Hp → Prop) (h : P (some (.int v.1)) (st v.2 hs)) : Ev (d + 4) ix_X3_laughs 0 0 [.ref a, .int a1] (st S hs) P := by
  refine Ev.intro (M := mi_X3_laughs) rfl (Nat.le_of_ble_eq_true rfl) ?_
  unfold r_X3_laughs_h0 at hr
  refine Wp.stepsG 2 (fun cal X P' hk hX hP => ?_)
  refine kObj_at (ha _) ?_
  show X (4, [some (.ref a), some (.int a1)], [.ref 30], st S hs, 0, 0)
  refine hX _ ?_
  clear hP hX hk P' X cal
  refine Wp.stepsG 2 (fun cal X P' hk hX hP => ?_)
  show kcall cal ix_X10_begin [.ref 30, .int 11] (st S hs) [] 0 0 (0, 0) (fun v σ' c' m' => X (9, [some (.ref a), some (.int a1)], v.toList ++ [], σ', c', m'))
  obtain ⟨q1, hq1, hr⟩ := bd_some hr
  refine kcall0 rfl (hk _ _ _ _ _ _ (e_X10_begin_30 (d + 2) S hs 11 q1 hq1 _ ?_))
  show X (9, [some (.ref a), some (.int a1)], [], st q1.2 hs, 0, 0)
  refine hX _ ?_
  clear hP hX hk P' X cal
  refine Wp.stepsG 3 (fun cal X P' hk hX hP => ?_)
  refine kObj_at (ha _) ?_
  show kcall cal ix_X0_hears [.ref a, .int a1] (st q1.2 hs) [] 0 0 (0, 0) (fun v σ' c' m' => X (14, [some (.ref a), some (.int a1)], v.toList ++ [], σ', c', m'))
  obtain ⟨q2, hq2, hr⟩ := bd_some hr
  refine kcall0 rfl (hk _ _ _ _ _ _ (e_X0_hears_h0 (d + 0) q1.2 hs a w1 w2 w3 ha a1 q2 hq2 _ ?_))
  show X (14, [some (.ref a), some (.int a1)], [.int q2.1], st q2.2 hs, 0, 0)
  refine hX _ ?_
  clear hP hX hk P' X cal
  refine Wp.stepsG 2 (fun cal X P' hk hX hP => ?_)
  refine kObj_at (ha _) ?_
  show X (18, [some (.ref a), some (.int a1)], [.int w3, .int q2.1], st q2.2 hs, 0, 0)
  refine hX _ ?_
  clear hP hX hk P' X cal
  have hr := Option.some.inj hr
  subst hr
  refine Wp.stepsG 2 (fun cal X P' hk hX hP => ?_)
  exact hP _ _ h
def r_X3_tells_h0 (S : St) (w1 : Int32) (w2 : Int32) (w3 : Int32) (a1 : Int32) : Option (Int32 × St) :=
  (r_X10_begin_30 S 12).bind fun q1 =>
  (r_X3_laughs_h0 q1.2 w1 w2 w3 a1).bind fun q2 =>
  some (q2.1 * 2, q2.2)
set_option maxRecDepth 20000 in
set_option maxHeartbeats 4000000 in
theorem e_X3_tells_h0 (d : Nat) (S : St) (hs : List Hr) (a : Nat) (w1 : Int32) (w2 : Int32) (w3 : Int32) (ha : ∀ S, gH (st S hs) a = some (.inr (0, [.int w1, .int w2, .int w3, .ref 30]))) (a1 : Int32) (v : Int32 × St) (hr : r_X3_tells_h0 S w1 w2 w3 a1 = some v) (P : Option Value → Hp → Prop) (h : P (some (.int v.1)) (st v.2 hs)) : Ev (d + 5) ix_X3_tells 0 0 [.ref a, .int a1] (st S hs) P := by
  refine Ev.intro (M := mi_X3_tells) rfl (Nat.le_of_ble_eq_true rfl) ?_
  unfold r_X3_tells_h0 at hr
  refine Wp.stepsG 2 (fun cal X P' hk hX hP => ?_)
  refine kObj_at (ha _) ?_
  show X (4, [some (.ref a), some (.int a1)], [.ref 30], st S hs, 0, 0)
  refine hX _ ?_
  clear hP hX hk P' X cal
  refine Wp.stepsG 2 (fun cal X P' hk hX hP => ?_)
  show kcall cal ix_X10_begin [.ref 30, .int 12] (st S hs) [] 0 0 (0, 0) (fun v σ' c' m' => X (9, [some (.ref a), some (.int a1)], v.toList ++ [], σ', c', m'))
  obtain ⟨q1, hq1, hr⟩ := bd_some hr
  refine kcall0 rfl (hk _ _ _ _ _ _ (e_X10_begin_30 (d + 3) S hs 12 q1 hq1 _ ?_))
  show X (9, [some (.ref a), some (.int a1)], [], st q1.2 hs, 0, 0)
  refine hX _ ?_
  clear hP hX hk P' X cal
  refine Wp.stepsG 3 (fun cal X P' hk hX hP => ?_)
  refine kObj_at (ha _) ?_
  show kcall cal ix_X3_laughs [.ref a, .int a1] (st q1.2 hs) [] 0 0 (0, 0) (fun v σ' c' m' => X (14, [some (.ref a), some (.int a1)], v.toList ++ [], σ', c', m'))
  obtain ⟨q2, hq2, hr⟩ := bd_some hr
  refine kcall0 rfl (hk _ _ _ _ _ _ (e_X3_laughs_h0 (d + 0) q1.2 hs a w1 w2 w3 ha a1 q2 hq2 _ ?_))
  show X (14, [some (.ref a), some (.int a1)], [.int q2.1], st q2.2 hs, 0, 0)
  refine hX _ ?_
  clear hP hX hk P' X cal
  have hr := Option.some.inj hr
  subst hr
  refine Wp.stepsG 3 (fun cal X P' hk hX hP => ?_)
  exact hP _ _ h
def r_X2_memory_h2 (w1 : Int32) (w2 : Int32) (w3 : Int32) (a1 : Int32) (a2 : Int32) : Int32 :=
  a1 / 2
set_option maxRecDepth 20000 in
set_option maxHeartbeats 4000000 in
theorem e_X2_memory_h2 (d : Nat) (S : St) (hs : List Hr) (a : Nat) (w1 : Int32) (w2 : Int32) (w3 : Int32) (ha : ∀ S, gH (st S hs) a = some (.inr (2, [.int w1, .int w2, .int w3, .ref 30]))) (a1 : Int32) (a2 : Int32) (P : Option Value → Hp → Prop) (h : P (some (.int (r_X2_memory_h2 w1 w2 w3 a1 a2))) (st S hs)) : Ev (d + 1) ix_X2_memory 0 0 [.ref a, .int a1, .int a2] (st S hs) P := by
  refine Ev.intro (M := mi_X2_memory) rfl (Nat.le_of_ble_eq_true rfl) ?_
  unfold r_X2_memory_h2 at h
  refine Wp.stepsG 3 (fun cal X P' hk hX hP => ?_)
  show ¬ (2 : Int32) = 0 ∧ X (3, [some (.ref a), some (.int a1), some (.int a2)], [.int (a1 / 2)], st S hs, 0, 0)
  refine ⟨(show ¬ (2 : Int32) = 0 from by decide), hX _ ?_⟩
  clear hP hX hk P' X cal
  refine Wp.stepsG 1 (fun cal X P' hk hX hP => ?_)
  exact hP _ _ h
def r_X3_whenNew_h2 (w1 : Int32) (w2 : Int32) (w3 : Int32) (a1 : Int32) (a2 : Int32) : Int32 :=
  a1
set_option maxRecDepth 20000 in
set_option maxHeartbeats 4000000 in
theorem e_X3_whenNew_h2 (d : Nat) (S : St) (hs : List Hr) (a : Nat) (w1 : Int32) (w2 : Int32) (w3 : Int32) (ha : ∀ S, gH (st S hs) a = some (.inr (2, [.int w1, .int w2, .int w3, .ref 30]))) (a1 : Int32) (a2 : Int32) (P : Option Value → Hp → Prop) (h : P (some (.int (r_X3_whenNew_h2 w1 w2 w3 a1 a2))) (st S hs)) : Ev (d + 1) ix_X3_whenNew 0 0 [.ref a, .int a1, .int a2] (st S hs) P := by
  refine Ev.intro (M := mi_X3_whenNew) rfl (Nat.le_of_ble_eq_true rfl) ?_
  unfold r_X3_whenNew_h2 at h
  refine Wp.stepsG 2 (fun cal X P' hk hX hP => ?_)
  exact hP _ _ h
def r_X3_whenKnown_h2 (w1 : Int32) (w2 : Int32) (w3 : Int32) (a1 : Int32) (a2 : Int32) : Int32 :=
  -a2
set_option maxRecDepth 20000 in
set_option maxHeartbeats 4000000 in
theorem e_X3_whenKnown_h2 (d : Nat) (S : St) (hs : List Hr) (a : Nat) (w1 : Int32) (w2 : Int32) (w3 : Int32) (ha : ∀ S, gH (st S hs) a = some (.inr (2, [.int w1, .int w2, .int w3, .ref 30]))) (a1 : Int32) (a2 : Int32) (P : Option Value → Hp → Prop) (h : P (some (.int (r_X3_whenKnown_h2 w1 w2 w3 a1 a2))) (st S hs)) : Ev (d + 1) ix_X3_whenKnown 0 0 [.ref a, .int a1, .int a2] (st S hs) P := by
  refine Ev.intro (M := mi_X3_whenKnown) rfl (Nat.le_of_ble_eq_true rfl) ?_
  unfold r_X3_whenKnown_h2 at h
  refine Wp.stepsG 3 (fun cal X P' hk hX hP => ?_)
  exact hP _ _ h
def r_X3_hears_h2 (S : St) (w1 : Int32) (w2 : Int32) (w3 : Int32) (a1 : Int32) : Option (Int32 × St) :=
  (r_X10_begin_30 S 10).bind fun q1 =>
  some (a1 + w2, q1.2)
set_option maxRecDepth 20000 in
set_option maxHeartbeats 4000000 in
theorem e_X3_hears_h2 (d : Nat) (S : St) (hs : List Hr) (a : Nat) (w1 : Int32) (w2 : Int32) (w3 : Int32) (ha : ∀ S, gH (st S hs) a = some (.inr (2, [.int w1, .int w2, .int w3, .ref 30]))) (a1 : Int32) (v : Int32 × St) (hr : r_X3_hears_h2 S w1 w2 w3 a1 = some v) (P : Option Value → Hp → Prop) (h : P (some (.int v.1)) (st v.2 hs)) : Ev (d + 2) ix_X3_hears 0 0 [.ref a, .int a1] (st S hs) P := by
  refine Ev.intro (M := mi_X3_hears) rfl (Nat.le_of_ble_eq_true rfl) ?_
  unfold r_X3_hears_h2 at hr
  refine Wp.stepsG 2 (fun cal X P' hk hX hP => ?_)
  refine kObj_at (ha _) ?_
  show X (4, [some (.ref a), some (.int a1)], [.ref 30], st S hs, 0, 0)
  refine hX _ ?_
  clear hP hX hk P' X cal
  refine Wp.stepsG 2 (fun cal X P' hk hX hP => ?_)
  show kcall cal ix_X10_begin [.ref 30, .int 10] (st S hs) [] 0 0 (0, 0) (fun v σ' c' m' => X (9, [some (.ref a), some (.int a1)], v.toList ++ [], σ', c', m'))
  obtain ⟨q1, hq1, hr⟩ := bd_some hr
  refine kcall0 rfl (hk _ _ _ _ _ _ (e_X10_begin_30 (d + 0) S hs 10 q1 hq1 _ ?_))
  show X (9, [some (.ref a), some (.int a1)], [], st q1.2 hs, 0, 0)
  refine hX _ ?_
  clear hP hX hk P' X cal
  refine Wp.stepsG 3 (fun cal X P' hk hX hP => ?_)
  refine kObj_at (ha _) ?_
  show X (14, [some (.ref a), some (.int a1)], [.int w2, .int a1], st q1.2 hs, 0, 0)
  refine hX _ ?_
  clear hP hX hk P' X cal
  have hr := Option.some.inj hr
  subst hr
  refine Wp.stepsG 2 (fun cal X P' hk hX hP => ?_)
  exact hP _ _ h
def r_X3_laughs_h2 (S : St) (w1 : Int32) (w2 : Int32) (w3 : Int32) (a1 : Int32) : Option (Int32 × St) :=
  (r_X10_begin_30 S 11).bind fun q1 =>
  (r_X3_hears_h2 q1.2 w1 w2 w3 a1).bind fun q2 =>
  some (q2.1 - w3, q2.2)
set_option maxRecDepth 20000 in
set_option maxHeartbeats 4000000 in
theorem e_X3_laughs_h2 (d : Nat) (S : St) (hs : List Hr) (a : Nat) (w1 : Int32) (w2 : Int32) (w3 : Int32) (ha : ∀ S, gH (st S hs) a = some (.inr (2, [.int w1, .int w2, .int w3, .ref 30]))) (a1 : Int32) (v : Int32 × St) (hr : r_X3_laughs_h2 S w1 w2 w3 a1 = some v) (P : Option Value → Hp → Prop) (h : P (some (.int v.1)) (st v.2 hs)) : Ev (d + 3) ix_X3_laughs 0 0 [.ref a, .int a1] (st S hs) P := by
  refine Ev.intro (M := mi_X3_laughs) rfl (Nat.le_of_ble_eq_true rfl) ?_
  unfold r_X3_laughs_h2 at hr
  refine Wp.stepsG 2 (fun cal X P' hk hX hP => ?_)
  refine kObj_at (ha _) ?_
  show X (4, [some (.ref a), some (.int a1)], [.ref 30], st S hs, 0, 0)
  refine hX _ ?_
  clear hP hX hk P' X cal
  refine Wp.stepsG 2 (fun cal X P' hk hX hP => ?_)
  show kcall cal ix_X10_begin [.ref 30, .int 11] (st S hs) [] 0 0 (0, 0) (fun v σ' c' m' => X (9, [some (.ref a), some (.int a1)], v.toList ++ [], σ', c', m'))
  obtain ⟨q1, hq1, hr⟩ := bd_some hr
  refine kcall0 rfl (hk _ _ _ _ _ _ (e_X10_begin_30 (d + 1) S hs 11 q1 hq1 _ ?_))
  show X (9, [some (.ref a), some (.int a1)], [], st q1.2 hs, 0, 0)
  refine hX _ ?_
  clear hP hX hk P' X cal
  refine Wp.stepsG 3 (fun cal X P' hk hX hP => ?_)
  refine kObj_at (ha _) ?_
  show kcall cal ix_X3_hears [.ref a, .int a1] (st q1.2 hs) [] 0 0 (0, 0) (fun v σ' c' m' => X (14, [some (.ref a), some (.int a1)], v.toList ++ [], σ', c', m'))
  obtain ⟨q2, hq2, hr⟩ := bd_some hr
  refine kcall0 rfl (hk _ _ _ _ _ _ (e_X3_hears_h2 (d + 0) q1.2 hs a w1 w2 w3 ha a1 q2 hq2 _ ?_))
  show X (14, [some (.ref a), some (.int a1)], [.int q2.1], st q2.2 hs, 0, 0)
  refine hX _ ?_
  clear hP hX hk P' X cal
  refine Wp.stepsG 2 (fun cal X P' hk hX hP => ?_)
  refine kObj_at (ha _) ?_
  show X (18, [some (.ref a), some (.int a1)], [.int w3, .int q2.1], st q2.2 hs, 0, 0)
  refine hX _ ?_
  clear hP hX hk P' X cal
  have hr := Option.some.inj hr
  subst hr
  refine Wp.stepsG 2 (fun cal X P' hk hX hP => ?_)
  exact hP _ _ h
def r_X3_tells_h2 (S : St) (w1 : Int32) (w2 : Int32) (w3 : Int32) (a1 : Int32) : Option (Int32 × St) :=
  (r_X10_begin_30 S 12).bind fun q1 =>
  (r_X3_laughs_h2 q1.2 w1 w2 w3 a1).bind fun q2 =>
  some (q2.1 * 2, q2.2)
set_option maxRecDepth 20000 in
set_option maxHeartbeats 4000000 in
theorem e_X3_tells_h2 (d : Nat) (S : St) (hs : List Hr) (a : Nat) (w1 : Int32) (w2 : Int32) (w3 : Int32) (ha : ∀ S, gH (st S hs) a = some (.inr (2, [.int w1, .int w2, .int w3, .ref 30]))) (a1 : Int32) (v : Int32 × St) (hr : r_X3_tells_h2 S w1 w2 w3 a1 = some v) (P : Option Value → Hp → Prop) (h : P (some (.int v.1)) (st v.2 hs)) : Ev (d + 4) ix_X3_tells 0 0 [.ref a, .int a1] (st S hs) P := by
  refine Ev.intro (M := mi_X3_tells) rfl (Nat.le_of_ble_eq_true rfl) ?_
  unfold r_X3_tells_h2 at hr
  refine Wp.stepsG 2 (fun cal X P' hk hX hP => ?_)
  refine kObj_at (ha _) ?_
  show X (4, [some (.ref a), some (.int a1)], [.ref 30], st S hs, 0, 0)
  refine hX _ ?_
  clear hP hX hk P' X cal
  refine Wp.stepsG 2 (fun cal X P' hk hX hP => ?_)
  show kcall cal ix_X10_begin [.ref 30, .int 12] (st S hs) [] 0 0 (0, 0) (fun v σ' c' m' => X (9, [some (.ref a), some (.int a1)], v.toList ++ [], σ', c', m'))
  obtain ⟨q1, hq1, hr⟩ := bd_some hr
  refine kcall0 rfl (hk _ _ _ _ _ _ (e_X10_begin_30 (d + 2) S hs 12 q1 hq1 _ ?_))
  show X (9, [some (.ref a), some (.int a1)], [], st q1.2 hs, 0, 0)
  refine hX _ ?_
  clear hP hX hk P' X cal
  refine Wp.stepsG 3 (fun cal X P' hk hX hP => ?_)
  refine kObj_at (ha _) ?_
  show kcall cal ix_X3_laughs [.ref a, .int a1] (st q1.2 hs) [] 0 0 (0, 0) (fun v σ' c' m' => X (14, [some (.ref a), some (.int a1)], v.toList ++ [], σ', c', m'))
  obtain ⟨q2, hq2, hr⟩ := bd_some hr
  refine kcall0 rfl (hk _ _ _ _ _ _ (e_X3_laughs_h2 (d + 0) q1.2 hs a w1 w2 w3 ha a1 q2 hq2 _ ?_))
  show X (14, [some (.ref a), some (.int a1)], [.int q2.1], st q2.2 hs, 0, 0)
  refine hX _ ?_
  clear hP hX hk P' X cal
  have hr := Option.some.inj hr
  subst hr
  refine Wp.stepsG 3 (fun cal X P' hk hX hP => ?_)
  exact hP _ _ h
def r_X2_tells_h2 (S : St) (w1 : Int32) (w2 : Int32) (w3 : Int32) (a1 : Int32) : Option (Int32 × St) :=
  (r_X10_begin_30 S 40).bind fun q1 =>
  (r_X3_tells_h2 q1.2 w1 w2 w3 a1).bind fun q2 =>
  (r_X3_laughs_h2 q2.2 w1 w2 w3 1).bind fun q3 =>
  some (q2.1 + q3.1, q3.2)
set_option maxRecDepth 20000 in
set_option maxHeartbeats 4000000 in
theorem e_X2_tells_h2 (d : Nat) (S : St) (hs : List Hr) (a : Nat) (w1 : Int32) (w2 : Int32) (w3 : Int32) (ha : ∀ S, gH (st S hs) a = some (.inr (2, [.int w1, .int w2, .int w3, .ref 30]))) (a1 : Int32) (v : Int32 × St) (hr : r_X2_tells_h2 S w1 w2 w3 a1 = some v) (P : Option Value → Hp → Prop) (h : P (some (.int v.1)) (st v.2 hs)) : Ev (d + 5) ix_X2_tells 0 0 [.ref a, .int a1] (st S hs) P := by
  refine Ev.intro (M := mi_X2_tells) rfl (Nat.le_of_ble_eq_true rfl) ?_
  unfold r_X2_tells_h2 at hr
  refine Wp.stepsG 2 (fun cal X P' hk hX hP => ?_)
  refine kObj_at (ha _) ?_
  show X (4, [some (.ref a), some (.int a1)], [.ref 30], st S hs, 0, 0)
  refine hX _ ?_
  clear hP hX hk P' X cal
  refine Wp.stepsG 2 (fun cal X P' hk hX hP => ?_)
  show kcall cal ix_X10_begin [.ref 30, .int 40] (st S hs) [] 0 0 (0, 0) (fun v σ' c' m' => X (9, [some (.ref a), some (.int a1)], v.toList ++ [], σ', c', m'))
  obtain ⟨q1, hq1, hr⟩ := bd_some hr
  refine kcall0 rfl (hk _ _ _ _ _ _ (e_X10_begin_30 (d + 3) S hs 40 q1 hq1 _ ?_))
  show X (9, [some (.ref a), some (.int a1)], [], st q1.2 hs, 0, 0)
  refine hX _ ?_
  clear hP hX hk P' X cal
  refine Wp.stepsG 3 (fun cal X P' hk hX hP => ?_)
  refine kObj_at (ha _) ?_
  show kcall cal ix_X3_tells [.ref a, .int a1] (st q1.2 hs) [] 0 0 (0, 0) (fun v σ' c' m' => X (14, [some (.ref a), some (.int a1)], v.toList ++ [], σ', c', m'))
  obtain ⟨q2, hq2, hr⟩ := bd_some hr
  refine kcall0 rfl (hk _ _ _ _ _ _ (e_X3_tells_h2 (d + 0) q1.2 hs a w1 w2 w3 ha a1 q2 hq2 _ ?_))
  show X (14, [some (.ref a), some (.int a1)], [.int q2.1], st q2.2 hs, 0, 0)
  refine hX _ ?_
  clear hP hX hk P' X cal
  refine Wp.stepsG 3 (fun cal X P' hk hX hP => ?_)
  refine kObj_at (ha _) ?_
  show kcall cal ix_X3_laughs [.ref a, .int 1] (st q2.2 hs) [.int q2.1] 0 0 (0, 0) (fun v σ' c' m' => X (19, [some (.ref a), some (.int a1)], v.toList ++ [.int q2.1], σ', c', m'))
  obtain ⟨q3, hq3, hr⟩ := bd_some hr
  refine kcall0 rfl (hk _ _ _ _ _ _ (e_X3_laughs_h2 (d + 1) q2.2 hs a w1 w2 w3 ha 1 q3 hq3 _ ?_))
  show X (19, [some (.ref a), some (.int a1)], [.int q3.1, .int q2.1], st q3.2 hs, 0, 0)
  refine hX _ ?_
  clear hP hX hk P' X cal
  have hr := Option.some.inj hr
  subst hr
  refine Wp.stepsG 2 (fun cal X P' hk hX hP => ?_)
  exact hP _ _ h
def r_X3_memory_h4 (w1 : Int32) (w2 : Int32) (w3 : Int32) (a1 : Int32) (a2 : Int32) : Int32 :=
  a1
set_option maxRecDepth 20000 in
set_option maxHeartbeats 4000000 in
theorem e_X3_memory_h4 (d : Nat) (S : St) (hs : List Hr) (a : Nat) (w1 : Int32) (w2 : Int32) (w3 : Int32) (ha : ∀ S, gH (st S hs) a = some (.inr (4, [.int w1, .int w2, .int w3, .ref 30]))) (a1 : Int32) (a2 : Int32) (P : Option Value → Hp → Prop) (h : P (some (.int (r_X3_memory_h4 w1 w2 w3 a1 a2))) (st S hs)) : Ev (d + 1) ix_X3_memory 0 0 [.ref a, .int a1, .int a2] (st S hs) P := by
  refine Ev.intro (M := mi_X3_memory) rfl (Nat.le_of_ble_eq_true rfl) ?_
  unfold r_X3_memory_h4 at h
  refine Wp.stepsG 2 (fun cal X P' hk hX hP => ?_)
  exact hP _ _ h
def r_X3_whenNew_h4 (w1 : Int32) (w2 : Int32) (w3 : Int32) (a1 : Int32) (a2 : Int32) : Int32 :=
  a1
set_option maxRecDepth 20000 in
set_option maxHeartbeats 4000000 in
theorem e_X3_whenNew_h4 (d : Nat) (S : St) (hs : List Hr) (a : Nat) (w1 : Int32) (w2 : Int32) (w3 : Int32) (ha : ∀ S, gH (st S hs) a = some (.inr (4, [.int w1, .int w2, .int w3, .ref 30]))) (a1 : Int32) (a2 : Int32) (P : Option Value → Hp → Prop) (h : P (some (.int (r_X3_whenNew_h4 w1 w2 w3 a1 a2))) (st S hs)) : Ev (d + 1) ix_X3_whenNew 0 0 [.ref a, .int a1, .int a2] (st S hs) P := by
  refine Ev.intro (M := mi_X3_whenNew) rfl (Nat.le_of_ble_eq_true rfl) ?_
  unfold r_X3_whenNew_h4 at h
  refine Wp.stepsG 2 (fun cal X P' hk hX hP => ?_)
  exact hP _ _ h
def r_X4_whenKnown_h4 (w1 : Int32) (w2 : Int32) (w3 : Int32) (a1 : Int32) (a2 : Int32) : Int32 :=
  w3
set_option maxRecDepth 20000 in
set_option maxHeartbeats 4000000 in
theorem e_X4_whenKnown_h4 (d : Nat) (S : St) (hs : List Hr) (a : Nat) (w1 : Int32) (w2 : Int32) (w3 : Int32) (ha : ∀ S, gH (st S hs) a = some (.inr (4, [.int w1, .int w2, .int w3, .ref 30]))) (a1 : Int32) (a2 : Int32) (P : Option Value → Hp → Prop) (h : P (some (.int (r_X4_whenKnown_h4 w1 w2 w3 a1 a2))) (st S hs)) : Ev (d + 1) ix_X4_whenKnown 0 0 [.ref a, .int a1, .int a2] (st S hs) P := by
  refine Ev.intro (M := mi_X4_whenKnown) rfl (Nat.le_of_ble_eq_true rfl) ?_
  unfold r_X4_whenKnown_h4 at h
  refine Wp.stepsG 2 (fun cal X P' hk hX hP => ?_)
  refine kObj_at (ha _) ?_
  show X (4, [some (.ref a), some (.int a1), some (.int a2)], [.int w3], st S hs, 0, 0)
  refine hX _ ?_
  clear hP hX hk P' X cal
  refine Wp.stepsG 1 (fun cal X P' hk hX hP => ?_)
  exact hP _ _ h
def r_X3_hears_h4 (S : St) (w1 : Int32) (w2 : Int32) (w3 : Int32) (a1 : Int32) : Option (Int32 × St) :=
  (r_X10_begin_30 S 10).bind fun q1 =>
  some (a1 + w2, q1.2)
set_option maxRecDepth 20000 in
set_option maxHeartbeats 4000000 in
theorem e_X3_hears_h4 (d : Nat) (S : St) (hs : List Hr) (a : Nat) (w1 : Int32) (w2 : Int32) (w3 : Int32) (ha : ∀ S, gH (st S hs) a = some (.inr (4, [.int w1, .int w2, .int w3, .ref 30]))) (a1 : Int32) (v : Int32 × St) (hr : r_X3_hears_h4 S w1 w2 w3 a1 = some v) (P : Option Value → Hp → Prop) (h : P (some (.int v.1)) (st v.2 hs)) : Ev (d + 2) ix_X3_hears 0 0 [.ref a, .int a1] (st S hs) P := by
  refine Ev.intro (M := mi_X3_hears) rfl (Nat.le_of_ble_eq_true rfl) ?_
  unfold r_X3_hears_h4 at hr
  refine Wp.stepsG 2 (fun cal X P' hk hX hP => ?_)
  refine kObj_at (ha _) ?_
  show X (4, [some (.ref a), some (.int a1)], [.ref 30], st S hs, 0, 0)
  refine hX _ ?_
  clear hP hX hk P' X cal
  refine Wp.stepsG 2 (fun cal X P' hk hX hP => ?_)
  show kcall cal ix_X10_begin [.ref 30, .int 10] (st S hs) [] 0 0 (0, 0) (fun v σ' c' m' => X (9, [some (.ref a), some (.int a1)], v.toList ++ [], σ', c', m'))
  obtain ⟨q1, hq1, hr⟩ := bd_some hr
  refine kcall0 rfl (hk _ _ _ _ _ _ (e_X10_begin_30 (d + 0) S hs 10 q1 hq1 _ ?_))
  show X (9, [some (.ref a), some (.int a1)], [], st q1.2 hs, 0, 0)
  refine hX _ ?_
  clear hP hX hk P' X cal
  refine Wp.stepsG 3 (fun cal X P' hk hX hP => ?_)
  refine kObj_at (ha _) ?_
  show X (14, [some (.ref a), some (.int a1)], [.int w2, .int a1], st q1.2 hs, 0, 0)
  refine hX _ ?_
  clear hP hX hk P' X cal
  have hr := Option.some.inj hr
  subst hr
  refine Wp.stepsG 2 (fun cal X P' hk hX hP => ?_)
  exact hP _ _ h
def r_X4_hears_h4 (S : St) (w1 : Int32) (w2 : Int32) (w3 : Int32) (a1 : Int32) : Option (Int32 × St) :=
  (r_X10_begin_30 S 50).bind fun q1 =>
  (r_X3_hears_h4 q1.2 w1 w2 w3 a1).bind fun q2 =>
  some (-q2.1, q2.2)
set_option maxRecDepth 20000 in
set_option maxHeartbeats 4000000 in
theorem e_X4_hears_h4 (d : Nat) (S : St) (hs : List Hr) (a : Nat) (w1 : Int32) (w2 : Int32) (w3 : Int32) (ha : ∀ S, gH (st S hs) a = some (.inr (4, [.int w1, .int w2, .int w3, .ref 30]))) (a1 : Int32) (v : Int32 × St) (hr : r_X4_hears_h4 S w1 w2 w3 a1 = some v) (P : Option Value → Hp → Prop) (h : P (some (.int v.1)) (st v.2 hs)) : Ev (d + 3) ix_X4_hears 0 0 [.ref a, .int a1] (st S hs) P := by
  refine Ev.intro (M := mi_X4_hears) rfl (Nat.le_of_ble_eq_true rfl) ?_
  unfold r_X4_hears_h4 at hr
  refine Wp.stepsG 2 (fun cal X P' hk hX hP => ?_)
  refine kObj_at (ha _) ?_
  show X (4, [some (.ref a), some (.int a1)], [.ref 30], st S hs, 0, 0)
  refine hX _ ?_
  clear hP hX hk P' X cal
  refine Wp.stepsG 2 (fun cal X P' hk hX hP => ?_)
  show kcall cal ix_X10_begin [.ref 30, .int 50] (st S hs) [] 0 0 (0, 0) (fun v σ' c' m' => X (9, [some (.ref a), some (.int a1)], v.toList ++ [], σ', c', m'))
  obtain ⟨q1, hq1, hr⟩ := bd_some hr
  refine kcall0 rfl (hk _ _ _ _ _ _ (e_X10_begin_30 (d + 1) S hs 50 q1 hq1 _ ?_))
  show X (9, [some (.ref a), some (.int a1)], [], st q1.2 hs, 0, 0)
  refine hX _ ?_
  clear hP hX hk P' X cal
  refine Wp.stepsG 3 (fun cal X P' hk hX hP => ?_)
  refine kObj_at (ha _) ?_
  show kcall cal ix_X3_hears [.ref a, .int a1] (st q1.2 hs) [] 0 0 (0, 0) (fun v σ' c' m' => X (14, [some (.ref a), some (.int a1)], v.toList ++ [], σ', c', m'))
  obtain ⟨q2, hq2, hr⟩ := bd_some hr
  refine kcall0 rfl (hk _ _ _ _ _ _ (e_X3_hears_h4 (d + 0) q1.2 hs a w1 w2 w3 ha a1 q2 hq2 _ ?_))
  show X (14, [some (.ref a), some (.int a1)], [.int q2.1], st q2.2 hs, 0, 0)
  refine hX _ ?_
  clear hP hX hk P' X cal
  have hr := Option.some.inj hr
  subst hr
  refine Wp.stepsG 2 (fun cal X P' hk hX hP => ?_)
  exact hP _ _ h
def r_X3_laughs_h4 (S : St) (w1 : Int32) (w2 : Int32) (w3 : Int32) (a1 : Int32) : Option (Int32 × St) :=
  (r_X10_begin_30 S 11).bind fun q1 =>
  (r_X4_hears_h4 q1.2 w1 w2 w3 a1).bind fun q2 =>
  some (q2.1 - w3, q2.2)
set_option maxRecDepth 20000 in
set_option maxHeartbeats 4000000 in
theorem e_X3_laughs_h4 (d : Nat) (S : St) (hs : List Hr) (a : Nat) (w1 : Int32) (w2 : Int32) (w3 : Int32) (ha : ∀ S, gH (st S hs) a = some (.inr (4, [.int w1, .int w2, .int w3, .ref 30]))) (a1 : Int32) (v : Int32 × St) (hr : r_X3_laughs_h4 S w1 w2 w3 a1 = some v) (P : Option Value → Hp → Prop) (h : P (some (.int v.1)) (st v.2 hs)) : Ev (d + 4) ix_X3_laughs 0 0 [.ref a, .int a1] (st S hs) P := by
  refine Ev.intro (M := mi_X3_laughs) rfl (Nat.le_of_ble_eq_true rfl) ?_
  unfold r_X3_laughs_h4 at hr
  refine Wp.stepsG 2 (fun cal X P' hk hX hP => ?_)
  refine kObj_at (ha _) ?_
  show X (4, [some (.ref a), some (.int a1)], [.ref 30], st S hs, 0, 0)
  refine hX _ ?_
  clear hP hX hk P' X cal
  refine Wp.stepsG 2 (fun cal X P' hk hX hP => ?_)
  show kcall cal ix_X10_begin [.ref 30, .int 11] (st S hs) [] 0 0 (0, 0) (fun v σ' c' m' => X (9, [some (.ref a), some (.int a1)], v.toList ++ [], σ', c', m'))
  obtain ⟨q1, hq1, hr⟩ := bd_some hr
  refine kcall0 rfl (hk _ _ _ _ _ _ (e_X10_begin_30 (d + 2) S hs 11 q1 hq1 _ ?_))
  show X (9, [some (.ref a), some (.int a1)], [], st q1.2 hs, 0, 0)
  refine hX _ ?_
  clear hP hX hk P' X cal
  refine Wp.stepsG 3 (fun cal X P' hk hX hP => ?_)
  refine kObj_at (ha _) ?_
  show kcall cal ix_X4_hears [.ref a, .int a1] (st q1.2 hs) [] 0 0 (0, 0) (fun v σ' c' m' => X (14, [some (.ref a), some (.int a1)], v.toList ++ [], σ', c', m'))
  obtain ⟨q2, hq2, hr⟩ := bd_some hr
  refine kcall0 rfl (hk _ _ _ _ _ _ (e_X4_hears_h4 (d + 0) q1.2 hs a w1 w2 w3 ha a1 q2 hq2 _ ?_))
  show X (14, [some (.ref a), some (.int a1)], [.int q2.1], st q2.2 hs, 0, 0)
  refine hX _ ?_
  clear hP hX hk P' X cal
  refine Wp.stepsG 2 (fun cal X P' hk hX hP => ?_)
  refine kObj_at (ha _) ?_
  show X (18, [some (.ref a), some (.int a1)], [.int w3, .int q2.1], st q2.2 hs, 0, 0)
  refine hX _ ?_
  clear hP hX hk P' X cal
  have hr := Option.some.inj hr
  subst hr
  refine Wp.stepsG 2 (fun cal X P' hk hX hP => ?_)
  exact hP _ _ h
def r_X6_laughs_h4 (S : St) (w1 : Int32) (w2 : Int32) (w3 : Int32) (a1 : Int32) : Option (Int32 × St) :=
  (r_X10_begin_30 S 20).bind fun q1 =>
  (r_X3_laughs_h4 q1.2 w1 w2 w3 a1).bind fun q2 =>
  some (q2.1 ^^^ 6, q2.2)
set_option maxRecDepth 20000 in
set_option maxHeartbeats 4000000 in
theorem e_X6_laughs_h4 (d : Nat) (S : St) (hs : List Hr) (a : Nat) (w1 : Int32) (w2 : Int32) (w3 : Int32) (ha : ∀ S, gH (st S hs) a = some (.inr (4, [.int w1, .int w2, .int w3, .ref 30]))) (a1 : Int32) (v : Int32 × St) (hr : r_X6_laughs_h4 S w1 w2 w3 a1 = some v) (P : Option Value → Hp → Prop) (h : P (some (.int v.1)) (st v.2 hs)) : Ev (d + 5) ix_X6_laughs 0 0 [.ref a, .int a1] (st S hs) P := by
  refine Ev.intro (M := mi_X6_laughs) rfl (Nat.le_of_ble_eq_true rfl) ?_
  unfold r_X6_laughs_h4 at hr
  refine Wp.stepsG 2 (fun cal X P' hk hX hP => ?_)
  refine kObj_at (ha _) ?_
  show X (4, [some (.ref a), some (.int a1)], [.ref 30], st S hs, 0, 0)
  refine hX _ ?_
  clear hP hX hk P' X cal
  refine Wp.stepsG 2 (fun cal X P' hk hX hP => ?_)
  show kcall cal ix_X10_begin [.ref 30, .int 20] (st S hs) [] 0 0 (0, 0) (fun v σ' c' m' => X (9, [some (.ref a), some (.int a1)], v.toList ++ [], σ', c', m'))
  obtain ⟨q1, hq1, hr⟩ := bd_some hr
  refine kcall0 rfl (hk _ _ _ _ _ _ (e_X10_begin_30 (d + 3) S hs 20 q1 hq1 _ ?_))
  show X (9, [some (.ref a), some (.int a1)], [], st q1.2 hs, 0, 0)
  refine hX _ ?_
  clear hP hX hk P' X cal
  refine Wp.stepsG 3 (fun cal X P' hk hX hP => ?_)
  refine kObj_at (ha _) ?_
  show kcall cal ix_X3_laughs [.ref a, .int a1] (st q1.2 hs) [] 0 0 (0, 0) (fun v σ' c' m' => X (14, [some (.ref a), some (.int a1)], v.toList ++ [], σ', c', m'))
  obtain ⟨q2, hq2, hr⟩ := bd_some hr
  refine kcall0 rfl (hk _ _ _ _ _ _ (e_X3_laughs_h4 (d + 0) q1.2 hs a w1 w2 w3 ha a1 q2 hq2 _ ?_))
  show X (14, [some (.ref a), some (.int a1)], [.int q2.1], st q2.2 hs, 0, 0)
  refine hX _ ?_
  clear hP hX hk P' X cal
  have hr := Option.some.inj hr
  subst hr
  refine Wp.stepsG 3 (fun cal X P' hk hX hP => ?_)
  exact hP _ _ h
def r_X4_laughs_h4 (S : St) (w1 : Int32) (w2 : Int32) (w3 : Int32) (a1 : Int32) : Option (Int32 × St) :=
  (r_X10_begin_30 S 51).bind fun q1 =>
  (r_X6_laughs_h4 q1.2 w1 w2 w3 (a1 + 1)).bind fun q2 =>
  some (q2.1, q2.2)
set_option maxRecDepth 20000 in
set_option maxHeartbeats 4000000 in
theorem e_X4_laughs_h4 (d : Nat) (S : St) (hs : List Hr) (a : Nat) (w1 : Int32) (w2 : Int32) (w3 : Int32) (ha : ∀ S, gH (st S hs) a = some (.inr (4, [.int w1, .int w2, .int w3, .ref 30]))) (a1 : Int32) (v : Int32 × St) (hr : r_X4_laughs_h4 S w1 w2 w3 a1 = some v) (P : Option Value → Hp → Prop) (h : P (some (.int v.1)) (st v.2 hs)) : Ev (d + 6) ix_X4_laughs 0 0 [.ref a, .int a1] (st S hs) P := by
  refine Ev.intro (M := mi_X4_laughs) rfl (Nat.le_of_ble_eq_true rfl) ?_
  unfold r_X4_laughs_h4 at hr
  refine Wp.stepsG 2 (fun cal X P' hk hX hP => ?_)
  refine kObj_at (ha _) ?_
  show X (4, [some (.ref a), some (.int a1)], [.ref 30], st S hs, 0, 0)
  refine hX _ ?_
  clear hP hX hk P' X cal
  refine Wp.stepsG 2 (fun cal X P' hk hX hP => ?_)
  show kcall cal ix_X10_begin [.ref 30, .int 51] (st S hs) [] 0 0 (0, 0) (fun v σ' c' m' => X (9, [some (.ref a), some (.int a1)], v.toList ++ [], σ', c', m'))
  obtain ⟨q1, hq1, hr⟩ := bd_some hr
  refine kcall0 rfl (hk _ _ _ _ _ _ (e_X10_begin_30 (d + 4) S hs 51 q1 hq1 _ ?_))
  show X (9, [some (.ref a), some (.int a1)], [], st q1.2 hs, 0, 0)
  refine hX _ ?_
  clear hP hX hk P' X cal
  refine Wp.stepsG 5 (fun cal X P' hk hX hP => ?_)
  refine kObj_at (ha _) ?_
  show kcall cal ix_X6_laughs [.ref a, .int (a1 + 1)] (st q1.2 hs) [] 0 0 (0, 0) (fun v σ' c' m' => X (16, [some (.ref a), some (.int a1)], v.toList ++ [], σ', c', m'))
  obtain ⟨q2, hq2, hr⟩ := bd_some hr
  refine kcall0 rfl (hk _ _ _ _ _ _ (e_X6_laughs_h4 (d + 0) q1.2 hs a w1 w2 w3 ha (a1 + 1) q2 hq2 _ ?_))
  show X (16, [some (.ref a), some (.int a1)], [.int q2.1], st q2.2 hs, 0, 0)
  refine hX _ ?_
  clear hP hX hk P' X cal
  have hr := Option.some.inj hr
  subst hr
  refine Wp.stepsG 1 (fun cal X P' hk hX hP => ?_)
  exact hP _ _ h
def r_X3_tells_h4 (S : St) (w1 : Int32) (w2 : Int32) (w3 : Int32) (a1 : Int32) : Option (Int32 × St) :=
  (r_X10_begin_30 S 12).bind fun q1 =>
  (r_X4_laughs_h4 q1.2 w1 w2 w3 a1).bind fun q2 =>
  some (q2.1 * 2, q2.2)
set_option maxRecDepth 20000 in
set_option maxHeartbeats 4000000 in
theorem e_X3_tells_h4 (d : Nat) (S : St) (hs : List Hr) (a : Nat) (w1 : Int32) (w2 : Int32) (w3 : Int32) (ha : ∀ S, gH (st S hs) a = some (.inr (4, [.int w1, .int w2, .int w3, .ref 30]))) (a1 : Int32) (v : Int32 × St) (hr : r_X3_tells_h4 S w1 w2 w3 a1 = some v) (P : Option Value → Hp → Prop) (h : P (some (.int v.1)) (st v.2 hs)) : Ev (d + 7) ix_X3_tells 0 0 [.ref a, .int a1] (st S hs) P := by
  refine Ev.intro (M := mi_X3_tells) rfl (Nat.le_of_ble_eq_true rfl) ?_
  unfold r_X3_tells_h4 at hr
  refine Wp.stepsG 2 (fun cal X P' hk hX hP => ?_)
  refine kObj_at (ha _) ?_
  show X (4, [some (.ref a), some (.int a1)], [.ref 30], st S hs, 0, 0)
  refine hX _ ?_
  clear hP hX hk P' X cal
  refine Wp.stepsG 2 (fun cal X P' hk hX hP => ?_)
  show kcall cal ix_X10_begin [.ref 30, .int 12] (st S hs) [] 0 0 (0, 0) (fun v σ' c' m' => X (9, [some (.ref a), some (.int a1)], v.toList ++ [], σ', c', m'))
  obtain ⟨q1, hq1, hr⟩ := bd_some hr
  refine kcall0 rfl (hk _ _ _ _ _ _ (e_X10_begin_30 (d + 5) S hs 12 q1 hq1 _ ?_))
  show X (9, [some (.ref a), some (.int a1)], [], st q1.2 hs, 0, 0)
  refine hX _ ?_
  clear hP hX hk P' X cal
  refine Wp.stepsG 3 (fun cal X P' hk hX hP => ?_)
  refine kObj_at (ha _) ?_
  show kcall cal ix_X4_laughs [.ref a, .int a1] (st q1.2 hs) [] 0 0 (0, 0) (fun v σ' c' m' => X (14, [some (.ref a), some (.int a1)], v.toList ++ [], σ', c', m'))
  obtain ⟨q2, hq2, hr⟩ := bd_some hr
  refine kcall0 rfl (hk _ _ _ _ _ _ (e_X4_laughs_h4 (d + 0) q1.2 hs a w1 w2 w3 ha a1 q2 hq2 _ ?_))
  show X (14, [some (.ref a), some (.int a1)], [.int q2.1], st q2.2 hs, 0, 0)
  refine hX _ ?_
  clear hP hX hk P' X cal
  have hr := Option.some.inj hr
  subst hr
  refine Wp.stepsG 3 (fun cal X P' hk hX hP => ?_)
  exact hP _ _ h
def r_X1_memory_h1 (w1 : Int32) (w2 : Int32) (w3 : Int32) (a1 : Int32) (a2 : Int32) : Int32 :=
  (2 : Int32) * a1
set_option maxRecDepth 20000 in
set_option maxHeartbeats 4000000 in
theorem e_X1_memory_h1 (d : Nat) (S : St) (hs : List Hr) (a : Nat) (w1 : Int32) (w2 : Int32) (w3 : Int32) (ha : ∀ S, gH (st S hs) a = some (.inr (1, [.int w1, .int w2, .int w3, .ref 30]))) (a1 : Int32) (a2 : Int32) (P : Option Value → Hp → Prop) (h : P (some (.int (r_X1_memory_h1 w1 w2 w3 a1 a2))) (st S hs)) : Ev (d + 1) ix_X1_memory 0 0 [.ref a, .int a1, .int a2] (st S hs) P := by
  refine Ev.intro (M := mi_X1_memory) rfl (Nat.le_of_ble_eq_true rfl) ?_
  unfold r_X1_memory_h1 at h
  refine Wp.stepsG 4 (fun cal X P' hk hX hP => ?_)
  exact hP _ _ h
def r_X0_whenNew_h1 (w1 : Int32) (w2 : Int32) (w3 : Int32) (a1 : Int32) (a2 : Int32) : Int32 :=
  a1 - a2
set_option maxRecDepth 20000 in
set_option maxHeartbeats 4000000 in
theorem e_X0_whenNew_h1 (d : Nat) (S : St) (hs : List Hr) (a : Nat) (w1 : Int32) (w2 : Int32) (w3 : Int32) (ha : ∀ S, gH (st S hs) a = some (.inr (1, [.int w1, .int w2, .int w3, .ref 30]))) (a1 : Int32) (a2 : Int32) (P : Option Value → Hp → Prop) (h : P (some (.int (r_X0_whenNew_h1 w1 w2 w3 a1 a2))) (st S hs)) : Ev (d + 1) ix_X0_whenNew 0 0 [.ref a, .int a1, .int a2] (st S hs) P := by
  refine Ev.intro (M := mi_X0_whenNew) rfl (Nat.le_of_ble_eq_true rfl) ?_
  unfold r_X0_whenNew_h1 at h
  refine Wp.stepsG 4 (fun cal X P' hk hX hP => ?_)
  exact hP _ _ h
def r_X1_whenKnown_h1 (w1 : Int32) (w2 : Int32) (w3 : Int32) (a1 : Int32) (a2 : Int32) : Int32 :=
  a1 + w3
set_option maxRecDepth 20000 in
set_option maxHeartbeats 4000000 in
theorem e_X1_whenKnown_h1 (d : Nat) (S : St) (hs : List Hr) (a : Nat) (w1 : Int32) (w2 : Int32) (w3 : Int32) (ha : ∀ S, gH (st S hs) a = some (.inr (1, [.int w1, .int w2, .int w3, .ref 30]))) (a1 : Int32) (a2 : Int32) (P : Option Value → Hp → Prop) (h : P (some (.int (r_X1_whenKnown_h1 w1 w2 w3 a1 a2))) (st S hs)) : Ev (d + 1) ix_X1_whenKnown 0 0 [.ref a, .int a1, .int a2] (st S hs) P := by
  refine Ev.intro (M := mi_X1_whenKnown) rfl (Nat.le_of_ble_eq_true rfl) ?_
  unfold r_X1_whenKnown_h1 at h
  refine Wp.stepsG 3 (fun cal X P' hk hX hP => ?_)
  refine kObj_at (ha _) ?_
  show X (5, [some (.ref a), some (.int a1), some (.int a2)], [.int w3, .int a1], st S hs, 0, 0)
  refine hX _ ?_
  clear hP hX hk P' X cal
  refine Wp.stepsG 2 (fun cal X P' hk hX hP => ?_)
  exact hP _ _ h
def r_X3_hears_h1 (S : St) (w1 : Int32) (w2 : Int32) (w3 : Int32) (a1 : Int32) : Option (Int32 × St) :=
  (r_X10_begin_30 S 10).bind fun q1 =>
  some (a1 + w2, q1.2)
set_option maxRecDepth 20000 in
set_option maxHeartbeats 4000000 in
theorem e_X3_hears_h1 (d : Nat) (S : St) (hs : List Hr) (a : Nat) (w1 : Int32) (w2 : Int32) (w3 : Int32) (ha : ∀ S, gH (st S hs) a = some (.inr (1, [.int w1, .int w2, .int w3, .ref 30]))) (a1 : Int32) (v : Int32 × St) (hr : r_X3_hears_h1 S w1 w2 w3 a1 = some v) (P : Option Value → Hp → Prop) (h : P (some (.int v.1)) (st v.2 hs)) : Ev (d + 2) ix_X3_hears 0 0 [.ref a, .int a1] (st S hs) P := by
  refine Ev.intro (M := mi_X3_hears) rfl (Nat.le_of_ble_eq_true rfl) ?_
  unfold r_X3_hears_h1 at hr
  refine Wp.stepsG 2 (fun cal X P' hk hX hP => ?_)
  refine kObj_at (ha _) ?_
  show X (4, [some (.ref a), some (.int a1)], [.ref 30], st S hs, 0, 0)
  refine hX _ ?_
  clear hP hX hk P' X cal
  refine Wp.stepsG 2 (fun cal X P' hk hX hP => ?_)
  show kcall cal ix_X10_begin [.ref 30, .int 10] (st S hs) [] 0 0 (0, 0) (fun v σ' c' m' => X (9, [some (.ref a), some (.int a1)], v.toList ++ [], σ', c', m'))
  obtain ⟨q1, hq1, hr⟩ := bd_some hr
  refine kcall0 rfl (hk _ _ _ _ _ _ (e_X10_begin_30 (d + 0) S hs 10 q1 hq1 _ ?_))
  show X (9, [some (.ref a), some (.int a1)], [], st q1.2 hs, 0, 0)
  refine hX _ ?_
  clear hP hX hk P' X cal
  refine Wp.stepsG 3 (fun cal X P' hk hX hP => ?_)
  refine kObj_at (ha _) ?_
  show X (14, [some (.ref a), some (.int a1)], [.int w2, .int a1], st q1.2 hs, 0, 0)
  refine hX _ ?_
  clear hP hX hk P' X cal
  have hr := Option.some.inj hr
  subst hr
  refine Wp.stepsG 2 (fun cal X P' hk hX hP => ?_)
  exact hP _ _ h
def r_X0_hears_h1 (S : St) (w1 : Int32) (w2 : Int32) (w3 : Int32) (a1 : Int32) : Option (Int32 × St) :=
  (r_X10_begin_30 S 30).bind fun q1 =>
  (r_X3_hears_h1 q1.2 w1 w2 w3 (a1 * 3)).bind fun q2 =>
  some (q2.1, q2.2)
set_option maxRecDepth 20000 in
set_option maxHeartbeats 4000000 in
theorem e_X0_hears_h1 (d : Nat) (S : St) (hs : List Hr) (a : Nat) (w1 : Int32) (w2 : Int32) (w3 : Int32) (ha : ∀ S, gH (st S hs) a = some (.inr (1, [.int w1, .int w2, .int w3, .ref 30]))) (a1 : Int32) (v : Int32 × St) (hr : r_X0_hears_h1 S w1 w2 w3 a1 = some v) (P : Option Value → Hp → Prop) (h : P (some (.int v.1)) (st v.2 hs)) : Ev (d + 3) ix_X0_hears 0 0 [.ref a, .int a1] (st S hs) P := by
  refine Ev.intro (M := mi_X0_hears) rfl (Nat.le_of_ble_eq_true rfl) ?_
  unfold r_X0_hears_h1 at hr
  refine Wp.stepsG 2 (fun cal X P' hk hX hP => ?_)
  refine kObj_at (ha _) ?_
  show X (4, [some (.ref a), some (.int a1)], [.ref 30], st S hs, 0, 0)
  refine hX _ ?_
  clear hP hX hk P' X cal
  refine Wp.stepsG 2 (fun cal X P' hk hX hP => ?_)
  show kcall cal ix_X10_begin [.ref 30, .int 30] (st S hs) [] 0 0 (0, 0) (fun v σ' c' m' => X (9, [some (.ref a), some (.int a1)], v.toList ++ [], σ', c', m'))
  obtain ⟨q1, hq1, hr⟩ := bd_some hr
  refine kcall0 rfl (hk _ _ _ _ _ _ (e_X10_begin_30 (d + 1) S hs 30 q1 hq1 _ ?_))
  show X (9, [some (.ref a), some (.int a1)], [], st q1.2 hs, 0, 0)
  refine hX _ ?_
  clear hP hX hk P' X cal
  refine Wp.stepsG 5 (fun cal X P' hk hX hP => ?_)
  refine kObj_at (ha _) ?_
  show kcall cal ix_X3_hears [.ref a, .int (a1 * 3)] (st q1.2 hs) [] 0 0 (0, 0) (fun v σ' c' m' => X (16, [some (.ref a), some (.int a1)], v.toList ++ [], σ', c', m'))
  obtain ⟨q2, hq2, hr⟩ := bd_some hr
  refine kcall0 rfl (hk _ _ _ _ _ _ (e_X3_hears_h1 (d + 0) q1.2 hs a w1 w2 w3 ha (a1 * 3) q2 hq2 _ ?_))
  show X (16, [some (.ref a), some (.int a1)], [.int q2.1], st q2.2 hs, 0, 0)
  refine hX _ ?_
  clear hP hX hk P' X cal
  have hr := Option.some.inj hr
  subst hr
  refine Wp.stepsG 1 (fun cal X P' hk hX hP => ?_)
  exact hP _ _ h
def r_X3_laughs_h1 (S : St) (w1 : Int32) (w2 : Int32) (w3 : Int32) (a1 : Int32) : Option (Int32 × St) :=
  (r_X10_begin_30 S 11).bind fun q1 =>
  (r_X0_hears_h1 q1.2 w1 w2 w3 a1).bind fun q2 =>
  some (q2.1 - w3, q2.2)
set_option maxRecDepth 20000 in
set_option maxHeartbeats 4000000 in
theorem e_X3_laughs_h1 (d : Nat) (S : St) (hs : List Hr) (a : Nat) (w1 : Int32) (w2 : Int32) (w3 : Int32) (ha : ∀ S, gH (st S hs) a = some (.inr (1, [.int w1, .int w2, .int w3, .ref 30]))) (a1 : Int32) (v : Int32 × St) (hr : r_X3_laughs_h1 S w1 w2 w3 a1 = some v) (P : Option Value → Hp → Prop) (h : P (some (.int v.1)) (st v.2 hs)) : Ev (d + 4) ix_X3_laughs 0 0 [.ref a, .int a1] (st S hs) P := by
  refine Ev.intro (M := mi_X3_laughs) rfl (Nat.le_of_ble_eq_true rfl) ?_
  unfold r_X3_laughs_h1 at hr
  refine Wp.stepsG 2 (fun cal X P' hk hX hP => ?_)
  refine kObj_at (ha _) ?_
  show X (4, [some (.ref a), some (.int a1)], [.ref 30], st S hs, 0, 0)
  refine hX _ ?_
  clear hP hX hk P' X cal
  refine Wp.stepsG 2 (fun cal X P' hk hX hP => ?_)
  show kcall cal ix_X10_begin [.ref 30, .int 11] (st S hs) [] 0 0 (0, 0) (fun v σ' c' m' => X (9, [some (.ref a), some (.int a1)], v.toList ++ [], σ', c', m'))
  obtain ⟨q1, hq1, hr⟩ := bd_some hr
  refine kcall0 rfl (hk _ _ _ _ _ _ (e_X10_begin_30 (d + 2) S hs 11 q1 hq1 _ ?_))
  show X (9, [some (.ref a), some (.int a1)], [], st q1.2 hs, 0, 0)
  refine hX _ ?_
  clear hP hX hk P' X cal
  refine Wp.stepsG 3 (fun cal X P' hk hX hP => ?_)
  refine kObj_at (ha _) ?_
  show kcall cal ix_X0_hears [.ref a, .int a1] (st q1.2 hs) [] 0 0 (0, 0) (fun v σ' c' m' => X (14, [some (.ref a), some (.int a1)], v.toList ++ [], σ', c', m'))
  obtain ⟨q2, hq2, hr⟩ := bd_some hr
  refine kcall0 rfl (hk _ _ _ _ _ _ (e_X0_hears_h1 (d + 0) q1.2 hs a w1 w2 w3 ha a1 q2 hq2 _ ?_))
  show X (14, [some (.ref a), some (.int a1)], [.int q2.1], st q2.2 hs, 0, 0)
  refine hX _ ?_
  clear hP hX hk P' X cal
  refine Wp.stepsG 2 (fun cal X P' hk hX hP => ?_)
  refine kObj_at (ha _) ?_
  show X (18, [some (.ref a), some (.int a1)], [.int w3, .int q2.1], st q2.2 hs, 0, 0)
  refine hX _ ?_
  clear hP hX hk P' X cal
  have hr := Option.some.inj hr
  subst hr
  refine Wp.stepsG 2 (fun cal X P' hk hX hP => ?_)
  exact hP _ _ h
def r_X3_tells_h1 (S : St) (w1 : Int32) (w2 : Int32) (w3 : Int32) (a1 : Int32) : Option (Int32 × St) :=
  (r_X10_begin_30 S 12).bind fun q1 =>
  (r_X3_laughs_h1 q1.2 w1 w2 w3 a1).bind fun q2 =>
  some (q2.1 * 2, q2.2)
set_option maxRecDepth 20000 in
set_option maxHeartbeats 4000000 in
theorem e_X3_tells_h1 (d : Nat) (S : St) (hs : List Hr) (a : Nat) (w1 : Int32) (w2 : Int32) (w3 : Int32) (ha : ∀ S, gH (st S hs) a = some (.inr (1, [.int w1, .int w2, .int w3, .ref 30]))) (a1 : Int32) (v : Int32 × St) (hr : r_X3_tells_h1 S w1 w2 w3 a1 = some v) (P : Option Value → Hp → Prop) (h : P (some (.int v.1)) (st v.2 hs)) : Ev (d + 5) ix_X3_tells 0 0 [.ref a, .int a1] (st S hs) P := by
  refine Ev.intro (M := mi_X3_tells) rfl (Nat.le_of_ble_eq_true rfl) ?_
  unfold r_X3_tells_h1 at hr
  refine Wp.stepsG 2 (fun cal X P' hk hX hP => ?_)
  refine kObj_at (ha _) ?_
  show X (4, [some (.ref a), some (.int a1)], [.ref 30], st S hs, 0, 0)
  refine hX _ ?_
  clear hP hX hk P' X cal
  refine Wp.stepsG 2 (fun cal X P' hk hX hP => ?_)
  show kcall cal ix_X10_begin [.ref 30, .int 12] (st S hs) [] 0 0 (0, 0) (fun v σ' c' m' => X (9, [some (.ref a), some (.int a1)], v.toList ++ [], σ', c', m'))
  obtain ⟨q1, hq1, hr⟩ := bd_some hr
  refine kcall0 rfl (hk _ _ _ _ _ _ (e_X10_begin_30 (d + 3) S hs 12 q1 hq1 _ ?_))
  show X (9, [some (.ref a), some (.int a1)], [], st q1.2 hs, 0, 0)
  refine hX _ ?_
  clear hP hX hk P' X cal
  refine Wp.stepsG 3 (fun cal X P' hk hX hP => ?_)
  refine kObj_at (ha _) ?_
  show kcall cal ix_X3_laughs [.ref a, .int a1] (st q1.2 hs) [] 0 0 (0, 0) (fun v σ' c' m' => X (14, [some (.ref a), some (.int a1)], v.toList ++ [], σ', c', m'))
  obtain ⟨q2, hq2, hr⟩ := bd_some hr
  refine kcall0 rfl (hk _ _ _ _ _ _ (e_X3_laughs_h1 (d + 0) q1.2 hs a w1 w2 w3 ha a1 q2 hq2 _ ?_))
  show X (14, [some (.ref a), some (.int a1)], [.int q2.1], st q2.2 hs, 0, 0)
  refine hX _ ?_
  clear hP hX hk P' X cal
  have hr := Option.some.inj hr
  subst hr
  refine Wp.stepsG 3 (fun cal X P' hk hX hP => ?_)
  exact hP _ _ h
def r_X1_tells_h1 (S : St) (w1 : Int32) (w2 : Int32) (w3 : Int32) (a1 : Int32) : Option (Int32 × St) :=
  (r_X10_begin_30 S 60).bind fun q1 =>
  (r_X3_tells_h1 q1.2 w1 w2 w3 (a1 - w2)).bind fun q2 =>
  some (q2.1, q2.2)
set_option maxRecDepth 20000 in
set_option maxHeartbeats 4000000 in
theorem e_X1_tells_h1 (d : Nat) (S : St) (hs : List Hr) (a : Nat) (w1 : Int32) (w2 : Int32) (w3 : Int32) (ha : ∀ S, gH (st S hs) a = some (.inr (1, [.int w1, .int w2, .int w3, .ref 30]))) (a1 : Int32) (v : Int32 × St) (hr : r_X1_tells_h1 S w1 w2 w3 a1 = some v) (P : Option Value → Hp → Prop) (h : P (some (.int v.1)) (st v.2 hs)) : Ev (d + 6) ix_X1_tells 0 0 [.ref a, .int a1] (st S hs) P := by
  refine Ev.intro (M := mi_X1_tells) rfl (Nat.le_of_ble_eq_true rfl) ?_
  unfold r_X1_tells_h1 at hr
  refine Wp.stepsG 2 (fun cal X P' hk hX hP => ?_)
  refine kObj_at (ha _) ?_
  show X (4, [some (.ref a), some (.int a1)], [.ref 30], st S hs, 0, 0)
  refine hX _ ?_
  clear hP hX hk P' X cal
  refine Wp.stepsG 2 (fun cal X P' hk hX hP => ?_)
  show kcall cal ix_X10_begin [.ref 30, .int 60] (st S hs) [] 0 0 (0, 0) (fun v σ' c' m' => X (9, [some (.ref a), some (.int a1)], v.toList ++ [], σ', c', m'))
  obtain ⟨q1, hq1, hr⟩ := bd_some hr
  refine kcall0 rfl (hk _ _ _ _ _ _ (e_X10_begin_30 (d + 4) S hs 60 q1 hq1 _ ?_))
  show X (9, [some (.ref a), some (.int a1)], [], st q1.2 hs, 0, 0)
  refine hX _ ?_
  clear hP hX hk P' X cal
  refine Wp.stepsG 4 (fun cal X P' hk hX hP => ?_)
  refine kObj_at (ha _) ?_
  show X (15, [some (.ref a), some (.int a1)], [.int w2, .int a1, .ref a], st q1.2 hs, 0, 0)
  refine hX _ ?_
  clear hP hX hk P' X cal
  refine Wp.stepsG 2 (fun cal X P' hk hX hP => ?_)
  refine kObj_at (ha _) ?_
  show kcall cal ix_X3_tells [.ref a, .int (a1 - w2)] (st q1.2 hs) [] 0 0 (0, 0) (fun v σ' c' m' => X (19, [some (.ref a), some (.int a1)], v.toList ++ [], σ', c', m'))
  obtain ⟨q2, hq2, hr⟩ := bd_some hr
  refine kcall0 rfl (hk _ _ _ _ _ _ (e_X3_tells_h1 (d + 0) q1.2 hs a w1 w2 w3 ha (a1 - w2) q2 hq2 _ ?_))
  show X (19, [some (.ref a), some (.int a1)], [.int q2.1], st q2.2 hs, 0, 0)
  refine hX _ ?_
  clear hP hX hk P' X cal
  have hr := Option.some.inj hr
  subst hr
  refine Wp.stepsG 1 (fun cal X P' hk hX hP => ?_)
  exact hP _ _ h
def r_X9_memory_h9 (w1 : Int32) (w2 : Int32) (w3 : Int32) (a1 : Int32) (a2 : Int32) : Option Int32 :=
  if a2 ≤ 0 then
    some a1
  else
    gd (¬ a2 = 0) (
      some (a1 / a2))
set_option maxRecDepth 20000 in
set_option maxHeartbeats 4000000 in
theorem e_X9_memory_h9 (d : Nat) (S : St) (hs : List Hr) (a : Nat) (w1 : Int32) (w2 : Int32) (w3 : Int32) (ha : ∀ S, gH (st S hs) a = some (.inr (9, [.int w1, .int w2, .int w3, .ref 30]))) (a1 : Int32) (a2 : Int32) (v : Int32) (hr : r_X9_memory_h9 w1 w2 w3 a1 a2 = some v) (P : Option Value → Hp → Prop) (h : P (some (.int v)) (st S hs)) : Ev (d + 1) ix_X9_memory 0 0 [.ref a, .int a1, .int a2] (st S hs) P := by
  refine Ev.intro (M := mi_X9_memory) rfl (Nat.le_of_ble_eq_true rfl) ?_
  unfold r_X9_memory_h9 at hr
  refine Wp.stepsG 2 (fun cal X P' hk hX hP => ?_)
  show (a2 ≤ 0 → X (10, [some (.ref a), some (.int a1), some (.int a2)], [], st S hs, 0, 0)) ∧ (¬ a2 ≤ 0 → X (4, [some (.ref a), some (.int a1), some (.int a2)], [], st S hs, 0, 0))
  refine ⟨fun hc => hX _ ?_, fun hc => hX _ ?_⟩
  · clear hP hX hk P' X cal
    rw [if_pos hc] at hr
    have hr := Option.some.inj hr
    subst hr
    refine Wp.stepsG 2 (fun cal X P' hk hX hP => ?_)
    exact hP _ _ h
  · clear hP hX hk P' X cal
    rw [if_neg hc] at hr
    refine Wp.stepsG 3 (fun cal X P' hk hX hP => ?_)
    show ¬ a2 = 0 ∧ X (7, [some (.ref a), some (.int a1), some (.int a2)], [.int (a1 / a2)], st S hs, 0, 0)
    obtain ⟨hg, hr⟩ := gd_some hr
    refine ⟨hg, hX _ ?_⟩
    clear hP hX hk P' X cal
    have hr := Option.some.inj hr
    subst hr
    refine Wp.stepsG 2 (fun cal X P' hk hX hP => ?_)
    exact hP _ _ h
def r_X3_whenNew_h9 (w1 : Int32) (w2 : Int32) (w3 : Int32) (a1 : Int32) (a2 : Int32) : Int32 :=
  a1
set_option maxRecDepth 20000 in
set_option maxHeartbeats 4000000 in
theorem e_X3_whenNew_h9 (d : Nat) (S : St) (hs : List Hr) (a : Nat) (w1 : Int32) (w2 : Int32) (w3 : Int32) (ha : ∀ S, gH (st S hs) a = some (.inr (9, [.int w1, .int w2, .int w3, .ref 30]))) (a1 : Int32) (a2 : Int32) (P : Option Value → Hp → Prop) (h : P (some (.int (r_X3_whenNew_h9 w1 w2 w3 a1 a2))) (st S hs)) : Ev (d + 1) ix_X3_whenNew 0 0 [.ref a, .int a1, .int a2] (st S hs) P := by
  refine Ev.intro (M := mi_X3_whenNew) rfl (Nat.le_of_ble_eq_true rfl) ?_
  unfold r_X3_whenNew_h9 at h
  refine Wp.stepsG 2 (fun cal X P' hk hX hP => ?_)
  exact hP _ _ h
def r_X3_whenKnown_h9 (w1 : Int32) (w2 : Int32) (w3 : Int32) (a1 : Int32) (a2 : Int32) : Int32 :=
  -a2
set_option maxRecDepth 20000 in
set_option maxHeartbeats 4000000 in
theorem e_X3_whenKnown_h9 (d : Nat) (S : St) (hs : List Hr) (a : Nat) (w1 : Int32) (w2 : Int32) (w3 : Int32) (ha : ∀ S, gH (st S hs) a = some (.inr (9, [.int w1, .int w2, .int w3, .ref 30]))) (a1 : Int32) (a2 : Int32) (P : Option Value → Hp → Prop) (h : P (some (.int (r_X3_whenKnown_h9 w1 w2 w3 a1 a2))) (st S hs)) : Ev (d + 1) ix_X3_whenKnown 0 0 [.ref a, .int a1, .int a2] (st S hs) P := by
  refine Ev.intro (M := mi_X3_whenKnown) rfl (Nat.le_of_ble_eq_true rfl) ?_
  unfold r_X3_whenKnown_h9 at h
  refine Wp.stepsG 3 (fun cal X P' hk hX hP => ?_)
  exact hP _ _ h
def r_X3_hears_h9 (S : St) (w1 : Int32) (w2 : Int32) (w3 : Int32) (a1 : Int32) : Option (Int32 × St) :=
  (r_X10_begin_30 S 10).bind fun q1 =>
  some (a1 + w2, q1.2)
set_option maxRecDepth 20000 in
set_option maxHeartbeats 4000000 in
theorem e_X3_hears_h9 (d : Nat) (S : St) (hs : List Hr) (a : Nat) (w1 : Int32) (w2 : Int32) (w3 : Int32) (ha : ∀ S, gH (st S hs) a = some (.inr (9, [.int w1, .int w2, .int w3, .ref 30]))) (a1 : Int32) (v : Int32 × St) (hr : r_X3_hears_h9 S w1 w2 w3 a1 = some v) (P : Option Value → Hp → Prop) (h : P (some (.int v.1)) (st v.2 hs)) : Ev (d + 2) ix_X3_hears 0 0 [.ref a, .int a1] (st S hs) P := by
  refine Ev.intro (M := mi_X3_hears) rfl (Nat.le_of_ble_eq_true rfl) ?_
  unfold r_X3_hears_h9 at hr
  refine Wp.stepsG 2 (fun cal X P' hk hX hP => ?_)
  refine kObj_at (ha _) ?_
  show X (4, [some (.ref a), some (.int a1)], [.ref 30], st S hs, 0, 0)
  refine hX _ ?_
  clear hP hX hk P' X cal
  refine Wp.stepsG 2 (fun cal X P' hk hX hP => ?_)
  show kcall cal ix_X10_begin [.ref 30, .int 10] (st S hs) [] 0 0 (0, 0) (fun v σ' c' m' => X (9, [some (.ref a), some (.int a1)], v.toList ++ [], σ', c', m'))
  obtain ⟨q1, hq1, hr⟩ := bd_some hr
  refine kcall0 rfl (hk _ _ _ _ _ _ (e_X10_begin_30 (d + 0) S hs 10 q1 hq1 _ ?_))
  show X (9, [some (.ref a), some (.int a1)], [], st q1.2 hs, 0, 0)
  refine hX _ ?_
  clear hP hX hk P' X cal
  refine Wp.stepsG 3 (fun cal X P' hk hX hP => ?_)
  refine kObj_at (ha _) ?_
  show X (14, [some (.ref a), some (.int a1)], [.int w2, .int a1], st q1.2 hs, 0, 0)
  refine hX _ ?_
  clear hP hX hk P' X cal
  have hr := Option.some.inj hr
  subst hr
  refine Wp.stepsG 2 (fun cal X P' hk hX hP => ?_)
  exact hP _ _ h
def r_X9_hears_h9 (S : St) (w1 : Int32) (w2 : Int32) (w3 : Int32) (a1 : Int32) : Option (Int32 × St) :=
  (r_X10_begin_30 S 71).bind fun q1 =>
  (r_X3_hears_h9 q1.2 w1 w2 w3 a1).bind fun q2 =>
  some (q2.1 ^^^ w3, q2.2)
set_option maxRecDepth 20000 in
set_option maxHeartbeats 4000000 in
theorem e_X9_hears_h9 (d : Nat) (S : St) (hs : List Hr) (a : Nat) (w1 : Int32) (w2 : Int32) (w3 : Int32) (ha : ∀ S, gH (st S hs) a = some (.inr (9, [.int w1, .int w2, .int w3, .ref 30]))) (a1 : Int32) (v : Int32 × St) (hr : r_X9_hears_h9 S w1 w2 w3 a1 = some v) (P : Option Value → Hp → Prop) (h : P (some (.int v.1)) (st v.2 hs)) : Ev (d + 3) ix_X9_hears 0 0 [.ref a, .int a1] (st S hs) P := by
  refine Ev.intro (M := mi_X9_hears) rfl (Nat.le_of_ble_eq_true rfl) ?_
  unfold r_X9_hears_h9 at hr
  refine Wp.stepsG 2 (fun cal X P' hk hX hP => ?_)
  refine kObj_at (ha _) ?_
  show X (4, [some (.ref a), some (.int a1)], [.ref 30], st S hs, 0, 0)
  refine hX _ ?_
  clear hP hX hk P' X cal
  refine Wp.stepsG 2 (fun cal X P' hk hX hP => ?_)
  show kcall cal ix_X10_begin [.ref 30, .int 71] (st S hs) [] 0 0 (0, 0) (fun v σ' c' m' => X (9, [some (.ref a), some (.int a1)], v.toList ++ [], σ', c', m'))
  obtain ⟨q1, hq1, hr⟩ := bd_some hr
  refine kcall0 rfl (hk _ _ _ _ _ _ (e_X10_begin_30 (d + 1) S hs 71 q1 hq1 _ ?_))
  show X (9, [some (.ref a), some (.int a1)], [], st q1.2 hs, 0, 0)
  refine hX _ ?_
  clear hP hX hk P' X cal
  refine Wp.stepsG 3 (fun cal X P' hk hX hP => ?_)
  refine kObj_at (ha _) ?_
  show kcall cal ix_X3_hears [.ref a, .int a1] (st q1.2 hs) [] 0 0 (0, 0) (fun v σ' c' m' => X (14, [some (.ref a), some (.int a1)], v.toList ++ [], σ', c', m'))
  obtain ⟨q2, hq2, hr⟩ := bd_some hr
  refine kcall0 rfl (hk _ _ _ _ _ _ (e_X3_hears_h9 (d + 0) q1.2 hs a w1 w2 w3 ha a1 q2 hq2 _ ?_))
  show X (14, [some (.ref a), some (.int a1)], [.int q2.1], st q2.2 hs, 0, 0)
  refine hX _ ?_
  clear hP hX hk P' X cal
  refine Wp.stepsG 2 (fun cal X P' hk hX hP => ?_)
  refine kObj_at (ha _) ?_
  show X (18, [some (.ref a), some (.int a1)], [.int w3, .int q2.1], st q2.2 hs, 0, 0)
  refine hX _ ?_
  clear hP hX hk P' X cal
  have hr := Option.some.inj hr
  subst hr
  refine Wp.stepsG 2 (fun cal X P' hk hX hP => ?_)
  exact hP _ _ h
def r_X3_laughs_h9 (S : St) (w1 : Int32) (w2 : Int32) (w3 : Int32) (a1 : Int32) : Option (Int32 × St) :=
  (r_X10_begin_30 S 11).bind fun q1 =>
  (r_X9_hears_h9 q1.2 w1 w2 w3 a1).bind fun q2 =>
  some (q2.1 - w3, q2.2)
set_option maxRecDepth 20000 in
set_option maxHeartbeats 4000000 in
theorem e_X3_laughs_h9 (d : Nat) (S : St) (hs : List Hr) (a : Nat) (w1 : Int32) (w2 : Int32) (w3 : Int32) (ha : ∀ S, gH (st S hs) a = some (.inr (9, [.int w1, .int w2, .int w3, .ref 30]))) (a1 : Int32) (v : Int32 × St) (hr : r_X3_laughs_h9 S w1 w2 w3 a1 = some v) (P : Option Value → Hp → Prop) (h : P (some (.int v.1)) (st v.2 hs)) : Ev (d + 4) ix_X3_laughs 0 0 [.ref a, .int a1] (st S hs) P := by
  refine Ev.intro (M := mi_X3_laughs) rfl (Nat.le_of_ble_eq_true rfl) ?_
  unfold r_X3_laughs_h9 at hr
  refine Wp.stepsG 2 (fun cal X P' hk hX hP => ?_)
  refine kObj_at (ha _) ?_
  show X (4, [some (.ref a), some (.int a1)], [.ref 30], st S hs, 0, 0)
  refine hX _ ?_
  clear hP hX hk P' X cal
  refine Wp.stepsG 2 (fun cal X P' hk hX hP => ?_)
  show kcall cal ix_X10_begin [.ref 30, .int 11] (st S hs) [] 0 0 (0, 0) (fun v σ' c' m' => X (9, [some (.ref a), some (.int a1)], v.toList ++ [], σ', c', m'))
  obtain ⟨q1, hq1, hr⟩ := bd_some hr
  refine kcall0 rfl (hk _ _ _ _ _ _ (e_X10_begin_30 (d + 2) S hs 11 q1 hq1 _ ?_))
  show X (9, [some (.ref a), some (.int a1)], [], st q1.2 hs, 0, 0)
  refine hX _ ?_
  clear hP hX hk P' X cal
  refine Wp.stepsG 3 (fun cal X P' hk hX hP => ?_)
  refine kObj_at (ha _) ?_
  show kcall cal ix_X9_hears [.ref a, .int a1] (st q1.2 hs) [] 0 0 (0, 0) (fun v σ' c' m' => X (14, [some (.ref a), some (.int a1)], v.toList ++ [], σ', c', m'))
  obtain ⟨q2, hq2, hr⟩ := bd_some hr
  refine kcall0 rfl (hk _ _ _ _ _ _ (e_X9_hears_h9 (d + 0) q1.2 hs a w1 w2 w3 ha a1 q2 hq2 _ ?_))
  show X (14, [some (.ref a), some (.int a1)], [.int q2.1], st q2.2 hs, 0, 0)
  refine hX _ ?_
  clear hP hX hk P' X cal
  refine Wp.stepsG 2 (fun cal X P' hk hX hP => ?_)
  refine kObj_at (ha _) ?_
  show X (18, [some (.ref a), some (.int a1)], [.int w3, .int q2.1], st q2.2 hs, 0, 0)
  refine hX _ ?_
  clear hP hX hk P' X cal
  have hr := Option.some.inj hr
  subst hr
  refine Wp.stepsG 2 (fun cal X P' hk hX hP => ?_)
  exact hP _ _ h
def r_X9_laughs_h9 (S : St) (w1 : Int32) (w2 : Int32) (w3 : Int32) (a1 : Int32) : Option (Int32 × St) :=
  (r_X10_begin_30 S 70).bind fun q1 =>
  (r_X3_laughs_h9 q1.2 w1 w2 w3 a1).bind fun q2 =>
  (r_X3_hears_h9 q2.2 w1 w2 w3 2).bind fun q3 =>
  some (q2.1 + q3.1, q3.2)
set_option maxRecDepth 20000 in
set_option maxHeartbeats 4000000 in
theorem e_X9_laughs_h9 (d : Nat) (S : St) (hs : List Hr) (a : Nat) (w1 : Int32) (w2 : Int32) (w3 : Int32) (ha : ∀ S, gH (st S hs) a = some (.inr (9, [.int w1, .int w2, .int w3, .ref 30]))) (a1 : Int32) (v : Int32 × St) (hr : r_X9_laughs_h9 S w1 w2 w3 a1 = some v) (P : Option Value → Hp → Prop) (h : P (some (.int v.1)) (st v.2 hs)) : Ev (d + 5) ix_X9_laughs 0 0 [.ref a, .int a1] (st S hs) P := by
  refine Ev.intro (M := mi_X9_laughs) rfl (Nat.le_of_ble_eq_true rfl) ?_
  unfold r_X9_laughs_h9 at hr
  refine Wp.stepsG 2 (fun cal X P' hk hX hP => ?_)
  refine kObj_at (ha _) ?_
  show X (4, [some (.ref a), some (.int a1)], [.ref 30], st S hs, 0, 0)
  refine hX _ ?_
  clear hP hX hk P' X cal
  refine Wp.stepsG 2 (fun cal X P' hk hX hP => ?_)
  show kcall cal ix_X10_begin [.ref 30, .int 70] (st S hs) [] 0 0 (0, 0) (fun v σ' c' m' => X (9, [some (.ref a), some (.int a1)], v.toList ++ [], σ', c', m'))
  obtain ⟨q1, hq1, hr⟩ := bd_some hr
  refine kcall0 rfl (hk _ _ _ _ _ _ (e_X10_begin_30 (d + 3) S hs 70 q1 hq1 _ ?_))
  show X (9, [some (.ref a), some (.int a1)], [], st q1.2 hs, 0, 0)
  refine hX _ ?_
  clear hP hX hk P' X cal
  refine Wp.stepsG 3 (fun cal X P' hk hX hP => ?_)
  refine kObj_at (ha _) ?_
  show kcall cal ix_X3_laughs [.ref a, .int a1] (st q1.2 hs) [] 0 0 (0, 0) (fun v σ' c' m' => X (14, [some (.ref a), some (.int a1)], v.toList ++ [], σ', c', m'))
  obtain ⟨q2, hq2, hr⟩ := bd_some hr
  refine kcall0 rfl (hk _ _ _ _ _ _ (e_X3_laughs_h9 (d + 0) q1.2 hs a w1 w2 w3 ha a1 q2 hq2 _ ?_))
  show X (14, [some (.ref a), some (.int a1)], [.int q2.1], st q2.2 hs, 0, 0)
  refine hX _ ?_
  clear hP hX hk P' X cal
  refine Wp.stepsG 3 (fun cal X P' hk hX hP => ?_)
  refine kObj_at (ha _) ?_
  show kcall cal ix_X3_hears [.ref a, .int 2] (st q2.2 hs) [.int q2.1] 0 0 (0, 0) (fun v σ' c' m' => X (19, [some (.ref a), some (.int a1)], v.toList ++ [.int q2.1], σ', c', m'))
  obtain ⟨q3, hq3, hr⟩ := bd_some hr
  refine kcall0 rfl (hk _ _ _ _ _ _ (e_X3_hears_h9 (d + 2) q2.2 hs a w1 w2 w3 ha 2 q3 hq3 _ ?_))
  show X (19, [some (.ref a), some (.int a1)], [.int q3.1, .int q2.1], st q3.2 hs, 0, 0)
  refine hX _ ?_
  clear hP hX hk P' X cal
  have hr := Option.some.inj hr
  subst hr
  refine Wp.stepsG 2 (fun cal X P' hk hX hP => ?_)
  exact hP _ _ h
def r_X3_tells_h9 (S : St) (w1 : Int32) (w2 : Int32) (w3 : Int32) (a1 : Int32) : Option (Int32 × St) :=
  (r_X10_begin_30 S 12).bind fun q1 =>
  (r_X9_laughs_h9 q1.2 w1 w2 w3 a1).bind fun q2 =>
  some (q2.1 * 2, q2.2)
set_option maxRecDepth 20000 in
set_option maxHeartbeats 4000000 in
theorem e_X3_tells_h9 (d : Nat) (S : St) (hs : List Hr) (a : Nat) (w1 : Int32) (w2 : Int32) (w3 : Int32) (ha : ∀ S, gH (st S hs) a = some (.inr (9, [.int w1, .int w2, .int w3, .ref 30]))) (a1 : Int32) (v : Int32 × St) (hr : r_X3_tells_h9 S w1 w2 w3 a1 = some v) (P : Option Value → Hp → Prop) (h : P (some (.int v.1)) (st v.2 hs)) : Ev (d + 6) ix_X3_tells 0 0 [.ref a, .int a1] (st S hs) P := by
  refine Ev.intro (M := mi_X3_tells) rfl (Nat.le_of_ble_eq_true rfl) ?_
  unfold r_X3_tells_h9 at hr
  refine Wp.stepsG 2 (fun cal X P' hk hX hP => ?_)
  refine kObj_at (ha _) ?_
  show X (4, [some (.ref a), some (.int a1)], [.ref 30], st S hs, 0, 0)
  refine hX _ ?_
  clear hP hX hk P' X cal
  refine Wp.stepsG 2 (fun cal X P' hk hX hP => ?_)
  show kcall cal ix_X10_begin [.ref 30, .int 12] (st S hs) [] 0 0 (0, 0) (fun v σ' c' m' => X (9, [some (.ref a), some (.int a1)], v.toList ++ [], σ', c', m'))
  obtain ⟨q1, hq1, hr⟩ := bd_some hr
  refine kcall0 rfl (hk _ _ _ _ _ _ (e_X10_begin_30 (d + 4) S hs 12 q1 hq1 _ ?_))
  show X (9, [some (.ref a), some (.int a1)], [], st q1.2 hs, 0, 0)
  refine hX _ ?_
  clear hP hX hk P' X cal
  refine Wp.stepsG 3 (fun cal X P' hk hX hP => ?_)
  refine kObj_at (ha _) ?_
  show kcall cal ix_X9_laughs [.ref a, .int a1] (st q1.2 hs) [] 0 0 (0, 0) (fun v σ' c' m' => X (14, [some (.ref a), some (.int a1)], v.toList ++ [], σ', c', m'))
  obtain ⟨q2, hq2, hr⟩ := bd_some hr
  refine kcall0 rfl (hk _ _ _ _ _ _ (e_X9_laughs_h9 (d + 0) q1.2 hs a w1 w2 w3 ha a1 q2 hq2 _ ?_))
  show X (14, [some (.ref a), some (.int a1)], [.int q2.1], st q2.2 hs, 0, 0)
  refine hX _ ?_
  clear hP hX hk P' X cal
  have hr := Option.some.inj hr
  subst hr
  refine Wp.stepsG 3 (fun cal X P' hk hX hP => ?_)
  exact hP _ _ h
def r_X2_tells_h9 (S : St) (w1 : Int32) (w2 : Int32) (w3 : Int32) (a1 : Int32) : Option (Int32 × St) :=
  (r_X10_begin_30 S 40).bind fun q1 =>
  (r_X3_tells_h9 q1.2 w1 w2 w3 a1).bind fun q2 =>
  (r_X9_laughs_h9 q2.2 w1 w2 w3 1).bind fun q3 =>
  some (q2.1 + q3.1, q3.2)
set_option maxRecDepth 20000 in
set_option maxHeartbeats 4000000 in
theorem e_X2_tells_h9 (d : Nat) (S : St) (hs : List Hr) (a : Nat) (w1 : Int32) (w2 : Int32) (w3 : Int32) (ha : ∀ S, gH (st S hs) a = some (.inr (9, [.int w1, .int w2, .int w3, .ref 30]))) (a1 : Int32) (v : Int32 × St) (hr : r_X2_tells_h9 S w1 w2 w3 a1 = some v) (P : Option Value → Hp → Prop) (h : P (some (.int v.1)) (st v.2 hs)) : Ev (d + 7) ix_X2_tells 0 0 [.ref a, .int a1] (st S hs) P := by
  refine Ev.intro (M := mi_X2_tells) rfl (Nat.le_of_ble_eq_true rfl) ?_
  unfold r_X2_tells_h9 at hr
  refine Wp.stepsG 2 (fun cal X P' hk hX hP => ?_)
  refine kObj_at (ha _) ?_
  show X (4, [some (.ref a), some (.int a1)], [.ref 30], st S hs, 0, 0)
  refine hX _ ?_
  clear hP hX hk P' X cal
  refine Wp.stepsG 2 (fun cal X P' hk hX hP => ?_)
  show kcall cal ix_X10_begin [.ref 30, .int 40] (st S hs) [] 0 0 (0, 0) (fun v σ' c' m' => X (9, [some (.ref a), some (.int a1)], v.toList ++ [], σ', c', m'))
  obtain ⟨q1, hq1, hr⟩ := bd_some hr
  refine kcall0 rfl (hk _ _ _ _ _ _ (e_X10_begin_30 (d + 5) S hs 40 q1 hq1 _ ?_))
  show X (9, [some (.ref a), some (.int a1)], [], st q1.2 hs, 0, 0)
  refine hX _ ?_
  clear hP hX hk P' X cal
  refine Wp.stepsG 3 (fun cal X P' hk hX hP => ?_)
  refine kObj_at (ha _) ?_
  show kcall cal ix_X3_tells [.ref a, .int a1] (st q1.2 hs) [] 0 0 (0, 0) (fun v σ' c' m' => X (14, [some (.ref a), some (.int a1)], v.toList ++ [], σ', c', m'))
  obtain ⟨q2, hq2, hr⟩ := bd_some hr
  refine kcall0 rfl (hk _ _ _ _ _ _ (e_X3_tells_h9 (d + 0) q1.2 hs a w1 w2 w3 ha a1 q2 hq2 _ ?_))
  show X (14, [some (.ref a), some (.int a1)], [.int q2.1], st q2.2 hs, 0, 0)
  refine hX _ ?_
  clear hP hX hk P' X cal
  refine Wp.stepsG 3 (fun cal X P' hk hX hP => ?_)
  refine kObj_at (ha _) ?_
  show kcall cal ix_X9_laughs [.ref a, .int 1] (st q2.2 hs) [.int q2.1] 0 0 (0, 0) (fun v σ' c' m' => X (19, [some (.ref a), some (.int a1)], v.toList ++ [.int q2.1], σ', c', m'))
  obtain ⟨q3, hq3, hr⟩ := bd_some hr
  refine kcall0 rfl (hk _ _ _ _ _ _ (e_X9_laughs_h9 (d + 1) q2.2 hs a w1 w2 w3 ha 1 q3 hq3 _ ?_))
  show X (19, [some (.ref a), some (.int a1)], [.int q3.1, .int q2.1], st q3.2 hs, 0, 0)
  refine hX _ ?_
  clear hP hX hk P' X cal
  have hr := Option.some.inj hr
  subst hr
  refine Wp.stepsG 2 (fun cal X P' hk hX hP => ?_)
  exact hP _ _ h
