def r_X11_within (a1 : Int32) (a2 : Int32) (a3 : Int32) : Int32 :=
  if a1 < a2 then
    0
  else
    if a3 < a1 then
      0
    else
      1
theorem b_X11_within (a1 : Int32) (a2 : Int32) (a3 : Int32) : r_X11_within a1 a2 a3 = 0 ∨ r_X11_within a1 a2 a3 = 1 := by
  unfold r_X11_within
  (repeat' split) <;> first | exact Or.inl rfl | exact Or.inr rfl
set_option maxRecDepth 20000 in
set_option maxHeartbeats 4000000 in
theorem e_X11_within (d : Nat) (S : St) (hs : List Hr) (a1 : Int32) (a2 : Int32) (a3 : Int32) (P : Option Value → Hp → Prop) (h : P (some (.int (r_X11_within a1 a2 a3))) (st S hs)) : Ev (d + 1) ix_X11_within 0 0 [.int a1, .int a2, .int a3] (st S hs) P := by
  refine Ev.intro (M := mi_X11_within) rfl (Nat.le_of_ble_eq_true rfl) ?_
  unfold r_X11_within at h
  refine Wp.stepsG 3 (fun cal X P' hk hX hP => ?_)
  show (a1 < a2 → X (14, [some (.int a1), some (.int a2), some (.int a3)], [], st S hs, 0, 0)) ∧ (¬ a1 < a2 → X (5, [some (.int a1), some (.int a2), some (.int a3)], [], st S hs, 0, 0))
  refine ⟨fun hc => hX _ ?_, fun hc => hX _ ?_⟩
  · clear hP hX hk P' X cal
    rw [if_pos hc] at h
    refine Wp.stepsG 2 (fun cal X P' hk hX hP => ?_)
    exact ⟨Or.inl rfl, hP _ _ h⟩
  · clear hP hX hk P' X cal
    rw [if_neg hc] at h
    refine Wp.stepsG 3 (fun cal X P' hk hX hP => ?_)
    show (a3 < a1 → X (14, [some (.int a1), some (.int a2), some (.int a3)], [], st S hs, 0, 0)) ∧ (¬ a3 < a1 → X (10, [some (.int a1), some (.int a2), some (.int a3)], [], st S hs, 0, 0))
    refine ⟨fun hc => hX _ ?_, fun hc => hX _ ?_⟩
    · clear hP hX hk P' X cal
      rw [if_pos hc] at h
      refine Wp.stepsG 2 (fun cal X P' hk hX hP => ?_)
      exact ⟨Or.inl rfl, hP _ _ h⟩
    · clear hP hX hk P' X cal
      rw [if_neg hc] at h
      refine Wp.stepsG 3 (fun cal X P' hk hX hP => ?_)
      exact ⟨Or.inr rfl, hP _ _ h⟩
def r_X11_isGood (a1 : Int32) : Int32 :=
  r_X11_within a1 1 30
theorem b_X11_isGood (a1 : Int32) : r_X11_isGood a1 = 0 ∨ r_X11_isGood a1 = 1 := by
  unfold r_X11_isGood
  (repeat' split) <;> first | exact Or.inl rfl | exact Or.inr rfl | exact b_X11_within a1 1 30
set_option maxRecDepth 20000 in
set_option maxHeartbeats 4000000 in
theorem e_X11_isGood (d : Nat) (S : St) (hs : List Hr) (a1 : Int32) (P : Option Value → Hp → Prop) (h : P (some (.int (r_X11_isGood a1))) (st S hs)) : Ev (d + 2) ix_X11_isGood 0 0 [.int a1] (st S hs) P := by
  refine Ev.intro (M := mi_X11_isGood) rfl (Nat.le_of_ble_eq_true rfl) ?_
  unfold r_X11_isGood at h
  refine Wp.stepsG 4 (fun cal X P' hk hX hP => ?_)
  show kcall cal ix_X11_within [.int a1, .int 1, .int 30] (st S hs) [] 0 0 (0, 0) (fun v σ' c' m' => X (7, [some (.int a1)], v.toList ++ [], σ', c', m'))
  refine kcall0 rfl (hk _ _ _ _ _ _ (e_X11_within (d + 0) S hs a1 1 30 _ ?_))
  show X (7, [some (.int a1)], [.int (r_X11_within a1 1 30)], st S hs, 0, 0)
  refine hX _ ?_
  clear hP hX hk P' X cal
  refine Wp.stepsG 1 (fun cal X P' hk hX hP => ?_)
  exact ⟨b_X11_within a1 1 30, hP _ _ h⟩
def r_X11_story (S : St) (a1 : Int32) (a2 : Int32) : Option (Int32 × St) :=
  if (r_X11_isGood a1) = 0 then
    some ((-2), S)
  else
    if (r_X11_within a2 1 9) = 0 then
      some ((-2), S)
    else
      if (S.1 8 2) < 8 then
        gd (¬ ((S.1 8 2) < 0 ∨ 8 ≤ (S.1 8 2).toNatClampNeg)) (
          gd (¬ ((S.1 8 2) < 0 ∨ 8 ≤ (S.1 8 2).toNatClampNeg)) (
            some (S.1 8 2, sI (sA (sA S 9 (upd (S.1 9) (S.1 8 2).toNatClampNeg a1)) 10 (upd (S.1 10) (S.1 8 2).toNatClampNeg a2)) 8 2 ((S.1 8 2) + 1))))
      else
        some ((-4), S)
set_option maxRecDepth 20000 in
set_option maxHeartbeats 4000000 in
theorem e_X11_story (d : Nat) (S : St) (hs : List Hr) (a1 : Int32) (a2 : Int32) (v : Int32 × St) (hr : r_X11_story S a1 a2 = some v) (P : Option Value → Hp → Prop) (h : P (some (.int v.1)) (st v.2 hs)) : Ev (d + 3) ix_X11_story 0 0 [.ref 7, .int a1, .int a2] (st S hs) P := by
  refine Ev.intro (M := mi_X11_story) rfl (Nat.le_of_ble_eq_true rfl) ?_
  unfold r_X11_story at hr
  refine Wp.stepsG 2 (fun cal X P' hk hX hP => ?_)
  show kcall cal ix_X11_isGood [.int a1] (st S hs) [] 0 0 (0, 0) (fun v σ' c' m' => X (4, [some (.ref 7), some (.int a1), some (.int a2)], v.toList ++ [], σ', c', m'))
  refine kcall0 rfl (hk _ _ _ _ _ _ (e_X11_isGood (d + 0) S hs a1 _ ?_))
  show X (4, [some (.ref 7), some (.int a1), some (.int a2)], [.int (r_X11_isGood a1)], st S hs, 0, 0)
  refine hX _ ?_
  clear hP hX hk P' X cal
  refine Wp.stepsG 1 (fun cal X P' hk hX hP => ?_)
  show ((r_X11_isGood a1) = 0 → X (17, [some (.ref 7), some (.int a1), some (.int a2)], [], st S hs, 0, 0)) ∧ (¬ (r_X11_isGood a1) = 0 → X (7, [some (.ref 7), some (.int a1), some (.int a2)], [], st S hs, 0, 0))
  refine ⟨fun hc => hX _ ?_, fun hc => hX _ ?_⟩
  · clear hP hX hk P' X cal
    rw [if_pos hc] at hr
    have hr := Option.some.inj hr
    subst hr
    refine Wp.stepsG 2 (fun cal X P' hk hX hP => ?_)
    exact hP _ _ h
  · clear hP hX hk P' X cal
    rw [if_neg hc] at hr
    refine Wp.stepsG 4 (fun cal X P' hk hX hP => ?_)
    show kcall cal ix_X11_within [.int a2, .int 1, .int 9] (st S hs) [] 0 0 (0, 0) (fun v σ' c' m' => X (14, [some (.ref 7), some (.int a1), some (.int a2)], v.toList ++ [], σ', c', m'))
    refine kcall0 rfl (hk _ _ _ _ _ _ (e_X11_within (d + 1) S hs a2 1 9 _ ?_))
    show X (14, [some (.ref 7), some (.int a1), some (.int a2)], [.int (r_X11_within a2 1 9)], st S hs, 0, 0)
    refine hX _ ?_
    clear hP hX hk P' X cal
    refine Wp.stepsG 1 (fun cal X P' hk hX hP => ?_)
    show (¬ (r_X11_within a2 1 9) = 0 → X (20, [some (.ref 7), some (.int a1), some (.int a2)], [], st S hs, 0, 0)) ∧ ((r_X11_within a2 1 9) = 0 → X (17, [some (.ref 7), some (.int a1), some (.int a2)], [], st S hs, 0, 0))
    refine ⟨fun hc => hX _ ?_, fun hc => hX _ ?_⟩
    · clear hP hX hk P' X cal
      rw [if_neg hc] at hr
      refine Wp.stepsG 5 (fun cal X P' hk hX hP => ?_)
      show ((S.1 8 2) < 8 → X (35, [some (.ref 7), some (.int a1), some (.int a2)], [], st S hs, 0, 0)) ∧ (¬ (S.1 8 2) < 8 → X (32, [some (.ref 7), some (.int a1), some (.int a2)], [], st S hs, 0, 0))
      refine ⟨fun hc => hX _ ?_, fun hc => hX _ ?_⟩
      · clear hP hX hk P' X cal
        rw [if_pos hc] at hr
        refine Wp.stepsG 8 (fun cal X P' hk hX hP => ?_)
        show vp_in (S.1 8 2) 8 ∧ X (51, [some (.ref 7), some (.int a1), some (.int a2)], [], st (sA S 9 (upd (S.1 9) (S.1 8 2).toNatClampNeg a1)) hs, 0, 0)
        obtain ⟨hg, hr⟩ := gd_some hr
        refine ⟨hg, hX _ ?_⟩
        clear hP hX hk P' X cal
        refine Wp.stepsG 8 (fun cal X P' hk hX hP => ?_)
        show vp_in (S.1 8 2) 8 ∧ X (67, [some (.ref 7), some (.int a1), some (.int a2)], [], st (sA (sA S 9 (upd (S.1 9) (S.1 8 2).toNatClampNeg a1)) 10 (upd (S.1 10) (S.1 8 2).toNatClampNeg a2)) hs, 0, 0)
        obtain ⟨hg, hr⟩ := gd_some hr
        refine ⟨hg, hX _ ?_⟩
        clear hP hX hk P' X cal
        have hr := Option.some.inj hr
        subst hr
        refine Wp.stepsG 9 (fun cal X P' hk hX hP => ?_)
        exact hP _ _ h
      · clear hP hX hk P' X cal
        rw [if_neg hc] at hr
        have hr := Option.some.inj hr
        subst hr
        refine Wp.stepsG 2 (fun cal X P' hk hX hP => ?_)
        exact hP _ _ h
    · clear hP hX hk P' X cal
      rw [if_pos hc] at hr
      have hr := Option.some.inj hr
      subst hr
      refine Wp.stepsG 2 (fun cal X P' hk hX hP => ?_)
      exact hP _ _ h
def r_X11_isStory (S : St) (a1 : Int32) : Int32 :=
  r_X11_within a1 0 ((S.1 8 2) - 1)
theorem b_X11_isStory (S : St) (a1 : Int32) : r_X11_isStory S a1 = 0 ∨ r_X11_isStory S a1 = 1 := by
  unfold r_X11_isStory
  (repeat' split) <;> first | exact Or.inl rfl | exact Or.inr rfl | exact b_X11_within a1 0 ((S.1 8 2) - 1)
set_option maxRecDepth 20000 in
set_option maxHeartbeats 4000000 in
theorem e_X11_isStory (d : Nat) (S : St) (hs : List Hr) (a1 : Int32) (P : Option Value → Hp → Prop) (h : P (some (.int (r_X11_isStory S a1))) (st S hs)) : Ev (d + 2) ix_X11_isStory 0 0 [.ref 7, .int a1] (st S hs) P := by
  refine Ev.intro (M := mi_X11_isStory) rfl (Nat.le_of_ble_eq_true rfl) ?_
  unfold r_X11_isStory at h
  refine Wp.stepsG 8 (fun cal X P' hk hX hP => ?_)
  show kcall cal ix_X11_within [.int a1, .int 0, .int ((S.1 8 2) - 1)] (st S hs) [] 0 0 (0, 0) (fun v σ' c' m' => X (14, [some (.ref 7), some (.int a1)], v.toList ++ [], σ', c', m'))
  refine kcall0 rfl (hk _ _ _ _ _ _ (e_X11_within (d + 0) S hs a1 0 ((S.1 8 2) - 1) _ ?_))
  show X (14, [some (.ref 7), some (.int a1)], [.int (r_X11_within a1 0 ((S.1 8 2) - 1))], st S hs, 0, 0)
  refine hX _ ?_
  clear hP hX hk P' X cal
  refine Wp.stepsG 1 (fun cal X P' hk hX hP => ?_)
  exact ⟨b_X11_within a1 0 ((S.1 8 2) - 1), hP _ _ h⟩
def r_X11_timesOf (S : St) (a1 : Int32) (a2 : Int32) : Option Int32 :=
  gd (¬ (((a1 * 8) + a2) < 0 ∨ 48 ≤ ((a1 * 8) + a2).toNatClampNeg)) (
    some ((S.1 12) ((a1 * 8) + a2).toNatClampNeg))
set_option maxRecDepth 20000 in
set_option maxHeartbeats 4000000 in
theorem e_X11_timesOf (d : Nat) (S : St) (hs : List Hr) (a1 : Int32) (a2 : Int32) (v : Int32) (hr : r_X11_timesOf S a1 a2 = some v) (P : Option Value → Hp → Prop) (h : P (some (.int v)) (st S hs)) : Ev (d + 1) ix_X11_timesOf 0 0 [.ref 7, .int a1, .int a2] (st S hs) P := by
  refine Ev.intro (M := mi_X11_timesOf) rfl (Nat.le_of_ble_eq_true rfl) ?_
  unfold r_X11_timesOf at hr
  refine Wp.stepsG 9 (fun cal X P' hk hX hP => ?_)
  show vp_in ((a1 * 8) + a2) 48 ∧ X (14, [some (.ref 7), some (.int a1), some (.int a2)], [.int ((S.1 12) ((a1 * 8) + a2).toNatClampNeg)], st S hs, 0, 0)
  obtain ⟨hg, hr⟩ := gd_some hr
  refine ⟨hg, hX _ ?_⟩
  clear hP hX hk P' X cal
  have hr := Option.some.inj hr
  subst hr
  refine Wp.stepsG 1 (fun cal X P' hk hX hP => ?_)
  exact hP _ _ h
def r_X11_in (a1 : Int32) (a2 : Int32) : Int32 :=
  if ((a1 >>> (a2 &&& 31)) &&& 1) = 1 then
    1
  else
    0
theorem b_X11_in (a1 : Int32) (a2 : Int32) : r_X11_in a1 a2 = 0 ∨ r_X11_in a1 a2 = 1 := by
  unfold r_X11_in
  (repeat' split) <;> first | exact Or.inl rfl | exact Or.inr rfl
set_option maxRecDepth 20000 in
set_option maxHeartbeats 4000000 in
theorem e_X11_in (d : Nat) (S : St) (hs : List Hr) (a1 : Int32) (a2 : Int32) (P : Option Value → Hp → Prop) (h : P (some (.int (r_X11_in a1 a2))) (st S hs)) : Ev (d + 1) ix_X11_in 0 0 [.int a1, .int a2] (st S hs) P := by
  refine Ev.intro (M := mi_X11_in) rfl (Nat.le_of_ble_eq_true rfl) ?_
  unfold r_X11_in at h
  refine Wp.stepsG 7 (fun cal X P' hk hX hP => ?_)
  show (¬ ((a1 >>> (a2 &&& 31)) &&& 1) = 1 → X (13, [some (.int a1), some (.int a2)], [], st S hs, 0, 0)) ∧ (((a1 >>> (a2 &&& 31)) &&& 1) = 1 → X (9, [some (.int a1), some (.int a2)], [], st S hs, 0, 0))
  refine ⟨fun hc => hX _ ?_, fun hc => hX _ ?_⟩
  · clear hP hX hk P' X cal
    rw [if_neg hc] at h
    refine Wp.stepsG 2 (fun cal X P' hk hX hP => ?_)
    exact ⟨Or.inl rfl, hP _ _ h⟩
  · clear hP hX hk P' X cal
    rw [if_pos hc] at h
    refine Wp.stepsG 3 (fun cal X P' hk hX hP => ?_)
    exact ⟨Or.inr rfl, hP _ _ h⟩
def r_X11_holding (S : St) : Option (Option Nat) :=
  if (r_X11_within (S.1 8 1) 0 ((S.1 7 6) - 1)) = 0 then
    some none
  else
    gd (¬ ((S.1 8 1) < 0 ∨ 6 ≤ (S.1 8 1).toNatClampNeg)) (
      some (hsF (S.1 8 1).toNatClampNeg))
theorem c_X11_holding {S : St} {v : Option Nat} (h : r_X11_holding S = some v) : v = none ∨ v = some 40 ∨ v = some 44 ∨ v = some 48 ∨ v = some 52 ∨ v = some 56 ∨ v = some 60 := by
  unfold r_X11_holding at h
  split at h
  · cases h
    exact Or.inl rfl
  · obtain ⟨_, h⟩ := gd_some h
    cases h
    exact hsF_cases _
set_option maxRecDepth 20000 in
set_option maxHeartbeats 4000000 in
theorem e_X11_holding (d : Nat) (S : St) (hs : List Hr) (v : (Option Nat)) (hr : r_X11_holding S = some v) (P : Option Value → Hp → Prop) (h : P (some (va_rf v)) (st S hs)) : Ev (d + 2) ix_X11_holding 0 0 [.ref 7] (st S hs) P := by
  refine Ev.intro (M := mi_X11_holding) rfl (Nat.le_of_ble_eq_true rfl) ?_
  unfold r_X11_holding at hr
  refine Wp.stepsG 9 (fun cal X P' hk hX hP => ?_)
  show kcall cal ix_X11_within [.int (S.1 8 1), .int 0, .int ((S.1 7 6) - 1)] (st S hs) [] 0 0 (0, 0) (fun v σ' c' m' => X (17, [some (.ref 7)], v.toList ++ [], σ', c', m'))
  refine kcall0 rfl (hk _ _ _ _ _ _ (e_X11_within (d + 0) S hs (S.1 8 1) 0 ((S.1 7 6) - 1) _ ?_))
  show X (17, [some (.ref 7)], [.int (r_X11_within (S.1 8 1) 0 ((S.1 7 6) - 1))], st S hs, 0, 0)
  refine hX _ ?_
  clear hP hX hk P' X cal
  refine Wp.stepsG 1 (fun cal X P' hk hX hP => ?_)
  show ((r_X11_within (S.1 8 1) 0 ((S.1 7 6) - 1)) = 0 → X (35, [some (.ref 7)], [], st S hs, 0, 0)) ∧ (¬ (r_X11_within (S.1 8 1) 0 ((S.1 7 6) - 1)) = 0 → X (20, [some (.ref 7)], [], st S hs, 0, 0))
  refine ⟨fun hc => hX _ ?_, fun hc => hX _ ?_⟩
  · clear hP hX hk P' X cal
    rw [if_pos hc] at hr
    have hr := Option.some.inj hr
    subst hr
    refine Wp.stepsG 2 (fun cal X P' hk hX hP => ?_)
    exact hP _ _ h
  · clear hP hX hk P' X cal
    rw [if_neg hc] at hr
    refine Wp.stepsG 6 (fun cal X P' hk hX hP => ?_)
    show vp_in (S.1 8 1) 6 ∧ X (32, [some (.ref 7)], [va_rf (hsF (S.1 8 1).toNatClampNeg)], st S hs, 0, 0)
    obtain ⟨hg, hr⟩ := gd_some hr
    refine ⟨hg, hX _ ?_⟩
    clear hP hX hk P' X cal
    have hr := Option.some.inj hr
    subst hr
    refine Wp.stepsG 2 (fun cal X P' hk hX hP => ?_)
    exact kR_rf (hP _ _ h)
def r_X11_daysTold (S : St) : Option Int32 :=
  (r_X11_holding S).bind fun q1 =>
  oN (q1) (
    some 20) (fun o =>
    some (S.1 o 3))
set_option maxRecDepth 20000 in
set_option maxHeartbeats 4000000 in
theorem e_X11_daysTold (d : Nat) (S : St) (hs : List Hr) (v : Int32) (hr : r_X11_daysTold S = some v) (P : Option Value → Hp → Prop) (h : P (some (.int v)) (st S hs)) : Ev (d + 3) ix_X11_daysTold 0 0 [.ref 7] (st S hs) P := by
  refine Ev.intro (M := mi_X11_daysTold) rfl (Nat.le_of_ble_eq_true rfl) ?_
  unfold r_X11_daysTold at hr
  refine Wp.stepsG 2 (fun cal X P' hk hX hP => ?_)
  show kcall cal ix_X11_holding [.ref 7] (st S hs) [] 0 0 (0, 0) (fun v σ' c' m' => X (4, [some (.ref 7), none], v.toList ++ [], σ', c', m'))
  obtain ⟨q1, hq1, hr⟩ := bd_some hr
  refine kcall0 rfl (hk _ _ _ _ _ _ (e_X11_holding (d + 0) S hs q1 hq1 _ ?_))
  show X (4, [some (.ref 7), none], [va_rf q1], st S hs, 0, 0)
  refine hX _ ?_
  clear hP hX hk P' X cal
  rcases c_X11_holding hq1 with hz2 | hz2 | hz2 | hz2 | hz2 | hz2 | hz2
  · rw [hz2]
    rw [oN_no hz2] at hr
    have hr := Option.some.inj hr
    subst hr
    refine Wp.stepsG 6 (fun cal X P' hk hX hP => ?_)
    exact hP _ _ h
  · rw [hz2]
    rw [oN_is hz2] at hr
    have hr := Option.some.inj hr
    subst hr
    refine Wp.stepsG 6 (fun cal X P' hk hX hP => ?_)
    exact hP _ _ h
  · rw [hz2]
    rw [oN_is hz2] at hr
    have hr := Option.some.inj hr
    subst hr
    refine Wp.stepsG 6 (fun cal X P' hk hX hP => ?_)
    exact hP _ _ h
  · rw [hz2]
    rw [oN_is hz2] at hr
    have hr := Option.some.inj hr
    subst hr
    refine Wp.stepsG 6 (fun cal X P' hk hX hP => ?_)
    exact hP _ _ h
  · rw [hz2]
    rw [oN_is hz2] at hr
    have hr := Option.some.inj hr
    subst hr
    refine Wp.stepsG 6 (fun cal X P' hk hX hP => ?_)
    exact hP _ _ h
  · rw [hz2]
    rw [oN_is hz2] at hr
    have hr := Option.some.inj hr
    subst hr
    refine Wp.stepsG 6 (fun cal X P' hk hX hP => ?_)
    exact hP _ _ h
  · rw [hz2]
    rw [oN_is hz2] at hr
    have hr := Option.some.inj hr
    subst hr
    refine Wp.stepsG 6 (fun cal X P' hk hX hP => ?_)
    exact hP _ _ h
def r_X11_at (S : St) (a1 : Int32) (a2 : Int32) : Option Int32 :=
  if (r_X11_isStory S a1) = 0 then
    some (-1)
  else
    if a2 = 0 then
      gd (¬ (a1 < 0 ∨ 8 ≤ a1.toNatClampNeg)) (
        some ((S.1 9) a1.toNatClampNeg))
    else
    if a2 = 1 then
      gd (¬ (a1 < 0 ∨ 8 ≤ a1.toNatClampNeg)) (
        some ((S.1 10) a1.toNatClampNeg))
    else
      some (-1)
set_option maxRecDepth 20000 in
set_option maxHeartbeats 4000000 in
theorem e_X11_at (d : Nat) (S : St) (hs : List Hr) (a1 : Int32) (a2 : Int32) (v : Int32) (hr : r_X11_at S a1 a2 = some v) (P : Option Value → Hp → Prop) (h : P (some (.int v)) (st S hs)) : Ev (d + 3) ix_X11_at 0 0 [.ref 7, .int a1, .int a2] (st S hs) P := by
  refine Ev.intro (M := mi_X11_at) rfl (Nat.le_of_ble_eq_true rfl) ?_
  unfold r_X11_at at hr
  refine Wp.stepsG 3 (fun cal X P' hk hX hP => ?_)
  show kcall cal ix_X11_isStory [.ref 7, .int a1] (st S hs) [] 0 0 (0, 0) (fun v σ' c' m' => X (5, [some (.ref 7), some (.int a1), some (.int a2)], v.toList ++ [], σ', c', m'))
  refine kcall0 rfl (hk _ _ _ _ _ _ (e_X11_isStory (d + 0) S hs a1 _ ?_))
  show X (5, [some (.ref 7), some (.int a1), some (.int a2)], [.int (r_X11_isStory S a1)], st S hs, 0, 0)
  refine hX _ ?_
  clear hP hX hk P' X cal
  refine Wp.stepsG 1 (fun cal X P' hk hX hP => ?_)
  show (¬ (r_X11_isStory S a1) = 0 → X (10, [some (.ref 7), some (.int a1), some (.int a2)], [], st S hs, 0, 0)) ∧ ((r_X11_isStory S a1) = 0 → X (8, [some (.ref 7), some (.int a1), some (.int a2)], [], st S hs, 0, 0))
  refine ⟨fun hc => hX _ ?_, fun hc => hX _ ?_⟩
  · clear hP hX hk P' X cal
    rw [if_neg hc] at hr
    refine Wp.stepsG 2 (fun cal X P' hk hX hP => ?_)
    show (a2 = 0 → X (36, [some (.ref 7), some (.int a1), some (.int a2)], [], st S hs, 0, 0)) ∧ (¬ a2 = 0 → (a2 = 1 → X (46, [some (.ref 7), some (.int a1), some (.int a2)], [], st S hs, 0, 0)) ∧ (¬ a2 = 1 → X (56, [some (.ref 7), some (.int a1), some (.int a2)], [], st S hs, 0, 0)))
    refine ⟨fun hc => hX _ ?_, fun hc => ?_⟩
    · clear hP hX hk P' X cal
      rw [if_pos hc] at hr
      refine Wp.stepsG 5 (fun cal X P' hk hX hP => ?_)
      show vp_in a1 8 ∧ X (45, [some (.ref 7), some (.int a1), some (.int a2)], [.int ((S.1 9) a1.toNatClampNeg)], st S hs, 0, 0)
      obtain ⟨hg, hr⟩ := gd_some hr
      refine ⟨hg, hX _ ?_⟩
      clear hP hX hk P' X cal
      have hr := Option.some.inj hr
      subst hr
      refine Wp.stepsG 1 (fun cal X P' hk hX hP => ?_)
      exact hP _ _ h
    · rw [if_neg hc] at hr
      refine ⟨fun hc => hX _ ?_, fun hc => hX _ ?_⟩
      · clear hP hX hk P' X cal
        rw [if_pos hc] at hr
        refine Wp.stepsG 5 (fun cal X P' hk hX hP => ?_)
        show vp_in a1 8 ∧ X (55, [some (.ref 7), some (.int a1), some (.int a2)], [.int ((S.1 10) a1.toNatClampNeg)], st S hs, 0, 0)
        obtain ⟨hg, hr⟩ := gd_some hr
        refine ⟨hg, hX _ ?_⟩
        clear hP hX hk P' X cal
        have hr := Option.some.inj hr
        subst hr
        refine Wp.stepsG 1 (fun cal X P' hk hX hP => ?_)
        exact hP _ _ h
      · rw [if_neg hc] at hr
        clear hP hX hk P' X cal
        have hr := Option.some.inj hr
        subst hr
        refine Wp.stepsG 2 (fun cal X P' hk hX hP => ?_)
        exact hP _ _ h
  · clear hP hX hk P' X cal
    rw [if_pos hc] at hr
    have hr := Option.some.inj hr
    subst hr
    refine Wp.stepsG 2 (fun cal X P' hk hX hP => ?_)
    exact hP _ _ h
def r_X11_good (S : St) (a1 : Int32) (a2 : Int32) : Option (Int32 × St) :=
  if (r_X11_isStory S a1) = 0 then
    some ((-1), S)
  else
    if (r_X11_isGood a2) = 0 then
      some ((-2), S)
    else
      gd (¬ (a1 < 0 ∨ 8 ≤ a1.toNatClampNeg)) (
        gd (¬ (a1 < 0 ∨ 8 ≤ a1.toNatClampNeg)) (
          some ((S.1 9) a1.toNatClampNeg, sA S 9 (upd (S.1 9) a1.toNatClampNeg a2))))
set_option maxRecDepth 20000 in
set_option maxHeartbeats 4000000 in
theorem e_X11_good (d : Nat) (S : St) (hs : List Hr) (a1 : Int32) (a2 : Int32) (v : Int32 × St) (hr : r_X11_good S a1 a2 = some v) (P : Option Value → Hp → Prop) (h : P (some (.int v.1)) (st v.2 hs)) : Ev (d + 3) ix_X11_good 0 0 [.ref 7, .int a1, .int a2] (st S hs) P := by
  refine Ev.intro (M := mi_X11_good) rfl (Nat.le_of_ble_eq_true rfl) ?_
  unfold r_X11_good at hr
  refine Wp.stepsG 3 (fun cal X P' hk hX hP => ?_)
  show kcall cal ix_X11_isStory [.ref 7, .int a1] (st S hs) [] 0 0 (0, 0) (fun v σ' c' m' => X (5, [some (.ref 7), some (.int a1), some (.int a2), none], v.toList ++ [], σ', c', m'))
  refine kcall0 rfl (hk _ _ _ _ _ _ (e_X11_isStory (d + 0) S hs a1 _ ?_))
  show X (5, [some (.ref 7), some (.int a1), some (.int a2), none], [.int (r_X11_isStory S a1)], st S hs, 0, 0)
  refine hX _ ?_
  clear hP hX hk P' X cal
  refine Wp.stepsG 1 (fun cal X P' hk hX hP => ?_)
  show (¬ (r_X11_isStory S a1) = 0 → X (10, [some (.ref 7), some (.int a1), some (.int a2), none], [], st S hs, 0, 0)) ∧ ((r_X11_isStory S a1) = 0 → X (8, [some (.ref 7), some (.int a1), some (.int a2), none], [], st S hs, 0, 0))
  refine ⟨fun hc => hX _ ?_, fun hc => hX _ ?_⟩
  · clear hP hX hk P' X cal
    rw [if_neg hc] at hr
    refine Wp.stepsG 2 (fun cal X P' hk hX hP => ?_)
    show kcall cal ix_X11_isGood [.int a2] (st S hs) [] 0 0 (0, 0) (fun v σ' c' m' => X (14, [some (.ref 7), some (.int a1), some (.int a2), none], v.toList ++ [], σ', c', m'))
    refine kcall0 rfl (hk _ _ _ _ _ _ (e_X11_isGood (d + 0) S hs a2 _ ?_))
    show X (14, [some (.ref 7), some (.int a1), some (.int a2), none], [.int (r_X11_isGood a2)], st S hs, 0, 0)
    refine hX _ ?_
    clear hP hX hk P' X cal
    refine Wp.stepsG 1 (fun cal X P' hk hX hP => ?_)
    show (¬ (r_X11_isGood a2) = 0 → X (20, [some (.ref 7), some (.int a1), some (.int a2), none], [], st S hs, 0, 0)) ∧ ((r_X11_isGood a2) = 0 → X (17, [some (.ref 7), some (.int a1), some (.int a2), none], [], st S hs, 0, 0))
    refine ⟨fun hc => hX _ ?_, fun hc => hX _ ?_⟩
    · clear hP hX hk P' X cal
      rw [if_neg hc] at hr
      refine Wp.stepsG 5 (fun cal X P' hk hX hP => ?_)
      show vp_in a1 8 ∧ X (29, [some (.ref 7), some (.int a1), some (.int a2), none], [.int ((S.1 9) a1.toNatClampNeg)], st S hs, 0, 0)
      obtain ⟨hg, hr⟩ := gd_some hr
      refine ⟨hg, hX _ ?_⟩
      clear hP hX hk P' X cal
      refine Wp.stepsG 7 (fun cal X P' hk hX hP => ?_)
      show vp_in a1 8 ∧ X (40, [some (.ref 7), some (.int a1), some (.int a2), some (.int ((S.1 9) a1.toNatClampNeg))], [], st (sA S 9 (upd (S.1 9) a1.toNatClampNeg a2)) hs, 0, 0)
      obtain ⟨hg, hr⟩ := gd_some hr
      refine ⟨hg, hX _ ?_⟩
      clear hP hX hk P' X cal
      have hr := Option.some.inj hr
      subst hr
      refine Wp.stepsG 2 (fun cal X P' hk hX hP => ?_)
      exact hP _ _ h
    · clear hP hX hk P' X cal
      rw [if_pos hc] at hr
      have hr := Option.some.inj hr
      subst hr
      refine Wp.stepsG 2 (fun cal X P' hk hX hP => ?_)
      exact hP _ _ h
  · clear hP hX hk P' X cal
    rw [if_pos hc] at hr
    have hr := Option.some.inj hr
    subst hr
    refine Wp.stepsG 2 (fun cal X P' hk hX hP => ?_)
    exact hP _ _ h
def r_X11_setHad (S : St) (a1 : Int32) (a2 : Int32) (a3 : Int32) : Option (Int32 × St) :=
  gd (¬ (((a1 * 8) + a2) < 0 ∨ 48 ≤ ((a1 * 8) + a2).toNatClampNeg)) (
    gd (¬ (((a1 * 8) + a2) < 0 ∨ 48 ≤ ((a1 * 8) + a2).toNatClampNeg)) (
      some (0, sA (sA S 12 (upd (S.1 12) ((a1 * 8) + a2).toNatClampNeg a3)) 13 (upd (S.1 13) ((a1 * 8) + a2).toNatClampNeg (S.1 8 0)))))
set_option maxRecDepth 20000 in
set_option maxHeartbeats 4000000 in
theorem e_X11_setHad (d : Nat) (S : St) (hs : List Hr) (a1 : Int32) (a2 : Int32) (a3 : Int32) (v : Int32 × St) (hr : r_X11_setHad S a1 a2 a3 = some v) (P : Option Value → Hp → Prop) (h : P none (st v.2 hs)) : Ev (d + 1) ix_X11_setHad 0 0 [.ref 7, .int a1, .int a2, .int a3] (st S hs) P := by
  refine Ev.intro (M := mi_X11_setHad) rfl (Nat.le_of_ble_eq_true rfl) ?_
  unfold r_X11_setHad at hr
  refine Wp.stepsG 12 (fun cal X P' hk hX hP => ?_)
  show vp_in ((a1 * 8) + a2) 48 ∧ X (19, [some (.ref 7), some (.int a1), some (.int a2), some (.int a3), some (.int ((a1 * 8) + a2))], [], st (sA S 12 (upd (S.1 12) ((a1 * 8) + a2).toNatClampNeg a3)) hs, 0, 0)
  obtain ⟨hg, hr⟩ := gd_some hr
  refine ⟨hg, hX _ ?_⟩
  clear hP hX hk P' X cal
  refine Wp.stepsG 8 (fun cal X P' hk hX hP => ?_)
  show vp_in ((a1 * 8) + a2) 48 ∧ X (36, [some (.ref 7), some (.int a1), some (.int a2), some (.int a3), some (.int ((a1 * 8) + a2))], [], st (sA (sA S 12 (upd (S.1 12) ((a1 * 8) + a2).toNatClampNeg a3)) 13 (upd (S.1 13) ((a1 * 8) + a2).toNatClampNeg (S.1 8 0))) hs, 0, 0)
  obtain ⟨hg, hr⟩ := gd_some hr
  refine ⟨hg, hX _ ?_⟩
  clear hP hX hk P' X cal
  have hr := Option.some.inj hr
  subst hr
  refine Wp.stepsG 1 (fun cal X P' hk hX hP => ?_)
  exact hP _ _ h
def r_X11_feed (S : St) (a1 : Int32) : Option (Int32 × St) :=
  if (r_X11_within a1 0 127) = 0 then
    some ((-2), S)
  else
    if (S.1 7 4) < 100 then
      gd (¬ ((S.1 7 4) < 0 ∨ 100 ≤ (S.1 7 4).toNatClampNeg)) (
        some ((S.1 7 4) + 1, sI (sA S 28 (upd (S.1 28) (S.1 7 4).toNatClampNeg (vp_nar .byte a1.toInt8.toInt32))) 7 4 ((S.1 7 4) + 1)))
    else
      some ((-4), S)
set_option maxRecDepth 20000 in
set_option maxHeartbeats 4000000 in
theorem e_X11_feed (d : Nat) (S : St) (hs : List Hr) (a1 : Int32) (v : Int32 × St) (hr : r_X11_feed S a1 = some v) (P : Option Value → Hp → Prop) (h : P (some (.int v.1)) (st v.2 hs)) : Ev (d + 2) ix_X11_feed 0 0 [.ref 7, .int a1] (st S hs) P := by
  refine Ev.intro (M := mi_X11_feed) rfl (Nat.le_of_ble_eq_true rfl) ?_
  unfold r_X11_feed at hr
  refine Wp.stepsG 4 (fun cal X P' hk hX hP => ?_)
  show kcall cal ix_X11_within [.int a1, .int 0, .int 127] (st S hs) [] 0 0 (0, 0) (fun v σ' c' m' => X (7, [some (.ref 7), some (.int a1)], v.toList ++ [], σ', c', m'))
  refine kcall0 rfl (hk _ _ _ _ _ _ (e_X11_within (d + 0) S hs a1 0 127 _ ?_))
  show X (7, [some (.ref 7), some (.int a1)], [.int (r_X11_within a1 0 127)], st S hs, 0, 0)
  refine hX _ ?_
  clear hP hX hk P' X cal
  refine Wp.stepsG 1 (fun cal X P' hk hX hP => ?_)
  show (¬ (r_X11_within a1 0 127) = 0 → X (13, [some (.ref 7), some (.int a1)], [], st S hs, 0, 0)) ∧ ((r_X11_within a1 0 127) = 0 → X (10, [some (.ref 7), some (.int a1)], [], st S hs, 0, 0))
  refine ⟨fun hc => hX _ ?_, fun hc => hX _ ?_⟩
  · clear hP hX hk P' X cal
    rw [if_neg hc] at hr
    refine Wp.stepsG 4 (fun cal X P' hk hX hP => ?_)
    show ((S.1 7 4) < 100 → X (25, [some (.ref 7), some (.int a1)], [], st S hs, 0, 0)) ∧ (¬ (S.1 7 4) < 100 → X (22, [some (.ref 7), some (.int a1)], [], st S hs, 0, 0))
    refine ⟨fun hc => hX _ ?_, fun hc => hX _ ?_⟩
    · clear hP hX hk P' X cal
      rw [if_pos hc] at hr
      refine Wp.stepsG 7 (fun cal X P' hk hX hP => ?_)
      show vp_in (S.1 7 4) 100 ∧ X (36, [some (.ref 7), some (.int a1)], [], st (sA S 28 (upd (S.1 28) (S.1 7 4).toNatClampNeg (vp_nar .byte a1.toInt8.toInt32))) hs, 0, 0)
      obtain ⟨hg, hr⟩ := gd_some hr
      refine ⟨hg, hX _ ?_⟩
      clear hP hX hk P' X cal
      have hr := Option.some.inj hr
      subst hr
      refine Wp.stepsG 9 (fun cal X P' hk hX hP => ?_)
      exact hP _ _ h
    · clear hP hX hk P' X cal
      rw [if_neg hc] at hr
      have hr := Option.some.inj hr
      subst hr
      refine Wp.stepsG 2 (fun cal X P' hk hX hP => ?_)
      exact hP _ _ h
  · clear hP hX hk P' X cal
    rw [if_pos hc] at hr
    have hr := Option.some.inj hr
    subst hr
    refine Wp.stepsG 2 (fun cal X P' hk hX hP => ?_)
    exact hP _ _ h
def r_X5_wordOf (a1 : Int32) : (Option Nat) :=
  if a1 = 0 then
    (some 3)
  else
  if a1 = 1 then
    (some 4)
  else
  if a1 = 2 then
    (some 5)
  else
    (some 6)
theorem c_X5_wordOf (a1 : Int32) (S : Unit := ()) : r_X5_wordOf a1 = some 3 ∨ r_X5_wordOf a1 = some 4 ∨ r_X5_wordOf a1 = some 5 ∨ r_X5_wordOf a1 = some 6 := by
  unfold r_X5_wordOf
  (repeat' split) <;> first | exact Or.inl rfl | exact Or.inr (Or.inl rfl) | exact Or.inr (Or.inr (Or.inl rfl)) | exact Or.inr (Or.inr (Or.inr rfl))
set_option maxRecDepth 20000 in
set_option maxHeartbeats 4000000 in
theorem e_X5_wordOf (d : Nat) (S : St) (hs : List Hr) (a1 : Int32) (P : Option Value → Hp → Prop) (h : P (some (va_rf (r_X5_wordOf a1))) (st S hs)) : Ev (d + 1) ix_X5_wordOf 0 0 [.int a1] (st S hs) P := by
  refine Ev.intro (M := mi_X5_wordOf) rfl (Nat.le_of_ble_eq_true rfl) ?_
  unfold r_X5_wordOf at h
  refine Wp.stepsG 2 (fun cal X P' hk hX hP => ?_)
  show (a1 = 0 → X (28, [some (.int a1)], [], st S hs, 0, 0)) ∧ (¬ a1 = 0 → (a1 = 1 → X (31, [some (.int a1)], [], st S hs, 0, 0)) ∧ (¬ a1 = 1 → (a1 = 2 → X (34, [some (.int a1)], [], st S hs, 0, 0)) ∧ (¬ a1 = 2 → X (37, [some (.int a1)], [], st S hs, 0, 0))))
  refine ⟨fun hc => hX _ ?_, fun hc => ?_⟩
  · clear hP hX hk P' X cal
    rw [if_pos hc] at h
    refine Wp.stepsG 2 (fun cal X P' hk hX hP => ?_)
    exact hP _ _ h
  · rw [if_neg hc] at h
    refine ⟨fun hc => hX _ ?_, fun hc => ?_⟩
    · clear hP hX hk P' X cal
      rw [if_pos hc] at h
      refine Wp.stepsG 2 (fun cal X P' hk hX hP => ?_)
      exact hP _ _ h
    · rw [if_neg hc] at h
      refine ⟨fun hc => hX _ ?_, fun hc => hX _ ?_⟩
      · clear hP hX hk P' X cal
        rw [if_pos hc] at h
        refine Wp.stepsG 2 (fun cal X P' hk hX hP => ?_)
        exact hP _ _ h
      · rw [if_neg hc] at h
        clear hP hX hk P' X cal
        refine Wp.stepsG 2 (fun cal X P' hk hX hP => ?_)
        exact hP _ _ h
def r_X5_signAt (S : St) (o : Nat) (a1 : Int32) : Option Int32 :=
  if (S.1 o 6) ≤ a1 then
    some (-1)
  else
    gd (S.2.2 o 5 = some 28) (
      gd (¬ (a1 < 0 ∨ 100 ≤ a1.toNatClampNeg)) (
        some ((S.1 28) a1.toNatClampNeg)))
set_option maxRecDepth 20000 in
set_option maxHeartbeats 4000000 in
theorem e_X5_signAt_40 (d : Nat) (S : St) (hs : List Hr) (a1 : Int32) (v : Int32) (hr : r_X5_signAt S 40 a1 = some v) (P : Option Value → Hp → Prop) (h : P (some (.int v)) (st S hs)) : Ev (d + 1) ix_X5_signAt 0 0 [.ref 40, .int a1] (st S hs) P := by
  refine Ev.intro (M := mi_X5_signAt) rfl (Nat.le_of_ble_eq_true rfl) ?_
  unfold r_X5_signAt at hr
  refine Wp.stepsG 4 (fun cal X P' hk hX hP => ?_)
  show ((S.1 40 6) ≤ a1 → X (17, [some (.ref 40), some (.int a1)], [], st S hs, 0, 0)) ∧ (¬ (S.1 40 6) ≤ a1 → X (8, [some (.ref 40), some (.int a1)], [], st S hs, 0, 0))
  refine ⟨fun hc => hX _ ?_, fun hc => hX _ ?_⟩
  · clear hP hX hk P' X cal
    rw [if_pos hc] at hr
    have hr := Option.some.inj hr
    subst hr
    refine Wp.stepsG 2 (fun cal X P' hk hX hP => ?_)
    exact hP _ _ h
  · clear hP hX hk P' X cal
    rw [if_neg hc] at hr
    refine Wp.stepsG 2 (fun cal X P' hk hX hP => ?_)
    show X (12, [some (.ref 40), some (.int a1)], [va_rf (S.2.2 40 5)], st S hs, 0, 0)
    refine hX _ ?_
    clear hP hX hk P' X cal
    obtain ⟨hg, hr⟩ := gd_some hr
    rw [hg]
    refine Wp.stepsG 2 (fun cal X P' hk hX hP => ?_)
    show vp_in a1 100 ∧ X (14, [some (.ref 40), some (.int a1)], [.int ((S.1 28) a1.toNatClampNeg)], st S hs, 0, 0)
    obtain ⟨hg, hr⟩ := gd_some hr
    refine ⟨hg, hX _ ?_⟩
    clear hP hX hk P' X cal
    have hr := Option.some.inj hr
    subst hr
    refine Wp.stepsG 2 (fun cal X P' hk hX hP => ?_)
    exact hP _ _ h
def lp_X5_alike_3_2 (S : St) (o : Nat) : Nat → Int32 → Option (Int32)
  | 0, _ => none
  | n + 1, v2 =>
    if 3 ≤ v2 then
      some v2
    else
      (r_X5_signAt S o ((S.1 o 7) + v2)).bind fun q1 =>
      gd (¬ (v2 < 0 ∨ 3 ≤ v2.toNatClampNeg)) (
        if q1 = (cAt (bAt strB 3) v2.toNatClampNeg) then
          lp_X5_alike_3_2 S o n (v2 + 1)
        else
          some v2)
def r_X5_alike_3 (S : St) (o : Nat) : Option Int32 :=
  (lp_X5_alike_3_2 S o 4000 0).bind fun q2 =>
    some q2
set_option maxRecDepth 20000 in
set_option maxHeartbeats 4000000 in
theorem e_lp_X5_alike_3_2_40 (d : Nat) (hs : List Hr) (P : Option Value → Hp → Prop) (S : St) : ∀ (n : Nat) (v2 : Int32) (q : Int32), lp_X5_alike_3_2 S 40 n v2 = some q → (WM mi_X5_alike (d + 1) P 34 [some (.ref 40), some (.ref 3), some (.int q)] [] (st S hs)) → WM mi_X5_alike (d + 1) P 2 [some (.ref 40), some (.ref 3), some (.int v2)] [] (st S hs) := by
  intro n
  induction n with
  | zero =>
    intro v2 q hl
    cases hl
  | succ n ih =>
    intro v2 q hl ct
    rw [lp_X5_alike_3_2] at hl
    refine Wp.stepsG 4 (fun cal X P' hk hX hP => ?_)
    show (3 ≤ v2 → X (34, [some (.ref 40), some (.ref 3), some (.int v2)], [], st S hs, 0, 0)) ∧ (¬ 3 ≤ v2 → X (10, [some (.ref 40), some (.ref 3), some (.int v2)], [], st S hs, 0, 0))
    refine ⟨fun hc => hX _ ?_, fun hc => hX _ ?_⟩
    · clear hP hX hk P' X cal
      rw [if_pos hc] at hl
      have hl := Option.some.inj hl
      subst hl
      exact (ct)
    · clear hP hX hk P' X cal
      rw [if_neg hc] at hl
      refine Wp.stepsG 6 (fun cal X P' hk hX hP => ?_)
      show kcall cal ix_X5_signAt [.ref 40, .int ((S.1 40 7) + v2)] (st S hs) [] 0 0 (0, 0) (fun v σ' c' m' => X (20, [some (.ref 40), some (.ref 3), some (.int v2)], v.toList ++ [], σ', c', m'))
      obtain ⟨q1, hq1, hl⟩ := bd_some hl
      refine kcall0 rfl (hk _ _ _ _ _ _ (e_X5_signAt_40 (d + 0) S hs ((S.1 40 7) + v2) q1 hq1 _ ?_))
      show X (20, [some (.ref 40), some (.ref 3), some (.int v2)], [.int q1], st S hs, 0, 0)
      refine hX _ ?_
      clear hP hX hk P' X cal
      refine Wp.stepsG 3 (fun cal X P' hk hX hP => ?_)
      show vp_in v2 3 ∧ X (25, [some (.ref 40), some (.ref 3), some (.int v2)], [.int (cAt (bAt strB 3) v2.toNatClampNeg), .int q1], st S hs, 0, 0)
      obtain ⟨hg, hl⟩ := gd_some hl
      refine ⟨hg, hX _ ?_⟩
      clear hP hX hk P' X cal
      refine Wp.stepsG 1 (fun cal X P' hk hX hP => ?_)
      show (¬ q1 = (cAt (bAt strB 3) v2.toNatClampNeg) → X (34, [some (.ref 40), some (.ref 3), some (.int v2)], [], st S hs, 0, 0)) ∧ (q1 = (cAt (bAt strB 3) v2.toNatClampNeg) → X (28, [some (.ref 40), some (.ref 3), some (.int v2)], [], st S hs, 0, 0))
      refine ⟨fun hc => hX _ ?_, fun hc => hX _ ?_⟩
      · clear hP hX hk P' X cal
        rw [if_neg hc] at hl
        have hl := Option.some.inj hl
        subst hl
        exact (ct)
      · clear hP hX hk P' X cal
        rw [if_pos hc] at hl
        refine Wp.stepsG 2 (fun cal X P' hk hX hP => ?_)
        show X (2, [some (.ref 40), some (.ref 3), some (.int (v2 + 1))], [], st S hs, 0, 0)
        refine hX _ ?_
        exact (ih (v2 + 1) q hl ct)
set_option maxRecDepth 20000 in
set_option maxHeartbeats 4000000 in
theorem e_X5_alike_3_40 (d : Nat) (S : St) (hs : List Hr) (v : Int32) (hr : r_X5_alike_3 S 40 = some v) (P : Option Value → Hp → Prop) (h : P (some (.int v)) (st S hs)) : Ev (d + 2) ix_X5_alike 0 0 [.ref 40, .ref 3] (st S hs) P := by
  refine Ev.intro (M := mi_X5_alike) rfl (Nat.le_of_ble_eq_true rfl) ?_
  unfold r_X5_alike_3 at hr
  refine Wp.stepsG 2 (fun cal X P' hk hX hP => ?_)
  show X (2, [some (.ref 40), some (.ref 3), some (.int 0)], [], st S hs, 0, 0)
  refine hX _ ?_
  clear hP hX hk P' X cal
  obtain ⟨q2, hq2, hr⟩ := bd_some hr
  refine (e_lp_X5_alike_3_2_40 d hs P S _ 0 q2 hq2 ?_)
  have hr := Option.some.inj hr
  subst hr
  refine Wp.stepsG 2 (fun cal X P' hk hX hP => ?_)
  exact hP _ _ h
def lp_X5_alike_4_2 (S : St) (o : Nat) : Nat → Int32 → Option (Int32)
  | 0, _ => none
  | n + 1, v2 =>
    if 4 ≤ v2 then
      some v2
    else
      (r_X5_signAt S o ((S.1 o 7) + v2)).bind fun q1 =>
      gd (¬ (v2 < 0 ∨ 4 ≤ v2.toNatClampNeg)) (
        if q1 = (cAt (bAt strB 4) v2.toNatClampNeg) then
          lp_X5_alike_4_2 S o n (v2 + 1)
        else
          some v2)
def r_X5_alike_4 (S : St) (o : Nat) : Option Int32 :=
  (lp_X5_alike_4_2 S o 4000 0).bind fun q2 =>
    some q2
set_option maxRecDepth 20000 in
set_option maxHeartbeats 4000000 in
theorem e_lp_X5_alike_4_2_40 (d : Nat) (hs : List Hr) (P : Option Value → Hp → Prop) (S : St) : ∀ (n : Nat) (v2 : Int32) (q : Int32), lp_X5_alike_4_2 S 40 n v2 = some q → (WM mi_X5_alike (d + 1) P 34 [some (.ref 40), some (.ref 4), some (.int q)] [] (st S hs)) → WM mi_X5_alike (d + 1) P 2 [some (.ref 40), some (.ref 4), some (.int v2)] [] (st S hs) := by
  intro n
  induction n with
  | zero =>
    intro v2 q hl
    cases hl
  | succ n ih =>
    intro v2 q hl ct
    rw [lp_X5_alike_4_2] at hl
    refine Wp.stepsG 4 (fun cal X P' hk hX hP => ?_)
    show (4 ≤ v2 → X (34, [some (.ref 40), some (.ref 4), some (.int v2)], [], st S hs, 0, 0)) ∧ (¬ 4 ≤ v2 → X (10, [some (.ref 40), some (.ref 4), some (.int v2)], [], st S hs, 0, 0))
    refine ⟨fun hc => hX _ ?_, fun hc => hX _ ?_⟩
    · clear hP hX hk P' X cal
      rw [if_pos hc] at hl
      have hl := Option.some.inj hl
      subst hl
      exact (ct)
    · clear hP hX hk P' X cal
      rw [if_neg hc] at hl
      refine Wp.stepsG 6 (fun cal X P' hk hX hP => ?_)
      show kcall cal ix_X5_signAt [.ref 40, .int ((S.1 40 7) + v2)] (st S hs) [] 0 0 (0, 0) (fun v σ' c' m' => X (20, [some (.ref 40), some (.ref 4), some (.int v2)], v.toList ++ [], σ', c', m'))
      obtain ⟨q1, hq1, hl⟩ := bd_some hl
      refine kcall0 rfl (hk _ _ _ _ _ _ (e_X5_signAt_40 (d + 0) S hs ((S.1 40 7) + v2) q1 hq1 _ ?_))
      show X (20, [some (.ref 40), some (.ref 4), some (.int v2)], [.int q1], st S hs, 0, 0)
      refine hX _ ?_
      clear hP hX hk P' X cal
      refine Wp.stepsG 3 (fun cal X P' hk hX hP => ?_)
      show vp_in v2 4 ∧ X (25, [some (.ref 40), some (.ref 4), some (.int v2)], [.int (cAt (bAt strB 4) v2.toNatClampNeg), .int q1], st S hs, 0, 0)
      obtain ⟨hg, hl⟩ := gd_some hl
      refine ⟨hg, hX _ ?_⟩
      clear hP hX hk P' X cal
      refine Wp.stepsG 1 (fun cal X P' hk hX hP => ?_)
      show (¬ q1 = (cAt (bAt strB 4) v2.toNatClampNeg) → X (34, [some (.ref 40), some (.ref 4), some (.int v2)], [], st S hs, 0, 0)) ∧ (q1 = (cAt (bAt strB 4) v2.toNatClampNeg) → X (28, [some (.ref 40), some (.ref 4), some (.int v2)], [], st S hs, 0, 0))
      refine ⟨fun hc => hX _ ?_, fun hc => hX _ ?_⟩
      · clear hP hX hk P' X cal
        rw [if_neg hc] at hl
        have hl := Option.some.inj hl
        subst hl
        exact (ct)
      · clear hP hX hk P' X cal
        rw [if_pos hc] at hl
        refine Wp.stepsG 2 (fun cal X P' hk hX hP => ?_)
        show X (2, [some (.ref 40), some (.ref 4), some (.int (v2 + 1))], [], st S hs, 0, 0)
        refine hX _ ?_
        exact (ih (v2 + 1) q hl ct)
set_option maxRecDepth 20000 in
set_option maxHeartbeats 4000000 in
theorem e_X5_alike_4_40 (d : Nat) (S : St) (hs : List Hr) (v : Int32) (hr : r_X5_alike_4 S 40 = some v) (P : Option Value → Hp → Prop) (h : P (some (.int v)) (st S hs)) : Ev (d + 2) ix_X5_alike 0 0 [.ref 40, .ref 4] (st S hs) P := by
  refine Ev.intro (M := mi_X5_alike) rfl (Nat.le_of_ble_eq_true rfl) ?_
  unfold r_X5_alike_4 at hr
  refine Wp.stepsG 2 (fun cal X P' hk hX hP => ?_)
  show X (2, [some (.ref 40), some (.ref 4), some (.int 0)], [], st S hs, 0, 0)
  refine hX _ ?_
  clear hP hX hk P' X cal
  obtain ⟨q2, hq2, hr⟩ := bd_some hr
  refine (e_lp_X5_alike_4_2_40 d hs P S _ 0 q2 hq2 ?_)
  have hr := Option.some.inj hr
  subst hr
  refine Wp.stepsG 2 (fun cal X P' hk hX hP => ?_)
  exact hP _ _ h
def lp_X5_alike_5_2 (S : St) (o : Nat) : Nat → Int32 → Option (Int32)
  | 0, _ => none
  | n + 1, v2 =>
    if 4 ≤ v2 then
      some v2
    else
      (r_X5_signAt S o ((S.1 o 7) + v2)).bind fun q1 =>
      gd (¬ (v2 < 0 ∨ 4 ≤ v2.toNatClampNeg)) (
        if q1 = (cAt (bAt strB 5) v2.toNatClampNeg) then
          lp_X5_alike_5_2 S o n (v2 + 1)
        else
          some v2)
def r_X5_alike_5 (S : St) (o : Nat) : Option Int32 :=
  (lp_X5_alike_5_2 S o 4000 0).bind fun q2 =>
    some q2
set_option maxRecDepth 20000 in
set_option maxHeartbeats 4000000 in
theorem e_lp_X5_alike_5_2_40 (d : Nat) (hs : List Hr) (P : Option Value → Hp → Prop) (S : St) : ∀ (n : Nat) (v2 : Int32) (q : Int32), lp_X5_alike_5_2 S 40 n v2 = some q → (WM mi_X5_alike (d + 1) P 34 [some (.ref 40), some (.ref 5), some (.int q)] [] (st S hs)) → WM mi_X5_alike (d + 1) P 2 [some (.ref 40), some (.ref 5), some (.int v2)] [] (st S hs) := by
  intro n
  induction n with
  | zero =>
    intro v2 q hl
    cases hl
  | succ n ih =>
    intro v2 q hl ct
    rw [lp_X5_alike_5_2] at hl
    refine Wp.stepsG 4 (fun cal X P' hk hX hP => ?_)
    show (4 ≤ v2 → X (34, [some (.ref 40), some (.ref 5), some (.int v2)], [], st S hs, 0, 0)) ∧ (¬ 4 ≤ v2 → X (10, [some (.ref 40), some (.ref 5), some (.int v2)], [], st S hs, 0, 0))
    refine ⟨fun hc => hX _ ?_, fun hc => hX _ ?_⟩
    · clear hP hX hk P' X cal
      rw [if_pos hc] at hl
      have hl := Option.some.inj hl
      subst hl
      exact (ct)
    · clear hP hX hk P' X cal
      rw [if_neg hc] at hl
      refine Wp.stepsG 6 (fun cal X P' hk hX hP => ?_)
      show kcall cal ix_X5_signAt [.ref 40, .int ((S.1 40 7) + v2)] (st S hs) [] 0 0 (0, 0) (fun v σ' c' m' => X (20, [some (.ref 40), some (.ref 5), some (.int v2)], v.toList ++ [], σ', c', m'))
      obtain ⟨q1, hq1, hl⟩ := bd_some hl
      refine kcall0 rfl (hk _ _ _ _ _ _ (e_X5_signAt_40 (d + 0) S hs ((S.1 40 7) + v2) q1 hq1 _ ?_))
      show X (20, [some (.ref 40), some (.ref 5), some (.int v2)], [.int q1], st S hs, 0, 0)
      refine hX _ ?_
      clear hP hX hk P' X cal
      refine Wp.stepsG 3 (fun cal X P' hk hX hP => ?_)
      show vp_in v2 4 ∧ X (25, [some (.ref 40), some (.ref 5), some (.int v2)], [.int (cAt (bAt strB 5) v2.toNatClampNeg), .int q1], st S hs, 0, 0)
      obtain ⟨hg, hl⟩ := gd_some hl
      refine ⟨hg, hX _ ?_⟩
      clear hP hX hk P' X cal
      refine Wp.stepsG 1 (fun cal X P' hk hX hP => ?_)
      show (¬ q1 = (cAt (bAt strB 5) v2.toNatClampNeg) → X (34, [some (.ref 40), some (.ref 5), some (.int v2)], [], st S hs, 0, 0)) ∧ (q1 = (cAt (bAt strB 5) v2.toNatClampNeg) → X (28, [some (.ref 40), some (.ref 5), some (.int v2)], [], st S hs, 0, 0))
      refine ⟨fun hc => hX _ ?_, fun hc => hX _ ?_⟩
      · clear hP hX hk P' X cal
        rw [if_neg hc] at hl
        have hl := Option.some.inj hl
        subst hl
        exact (ct)
      · clear hP hX hk P' X cal
        rw [if_pos hc] at hl
        refine Wp.stepsG 2 (fun cal X P' hk hX hP => ?_)
        show X (2, [some (.ref 40), some (.ref 5), some (.int (v2 + 1))], [], st S hs, 0, 0)
        refine hX _ ?_
        exact (ih (v2 + 1) q hl ct)
set_option maxRecDepth 20000 in
set_option maxHeartbeats 4000000 in
theorem e_X5_alike_5_40 (d : Nat) (S : St) (hs : List Hr) (v : Int32) (hr : r_X5_alike_5 S 40 = some v) (P : Option Value → Hp → Prop) (h : P (some (.int v)) (st S hs)) : Ev (d + 2) ix_X5_alike 0 0 [.ref 40, .ref 5] (st S hs) P := by
  refine Ev.intro (M := mi_X5_alike) rfl (Nat.le_of_ble_eq_true rfl) ?_
  unfold r_X5_alike_5 at hr
  refine Wp.stepsG 2 (fun cal X P' hk hX hP => ?_)
  show X (2, [some (.ref 40), some (.ref 5), some (.int 0)], [], st S hs, 0, 0)
  refine hX _ ?_
  clear hP hX hk P' X cal
  obtain ⟨q2, hq2, hr⟩ := bd_some hr
  refine (e_lp_X5_alike_5_2_40 d hs P S _ 0 q2 hq2 ?_)
  have hr := Option.some.inj hr
  subst hr
  refine Wp.stepsG 2 (fun cal X P' hk hX hP => ?_)
  exact hP _ _ h
def lp_X5_alike_6_2 (S : St) (o : Nat) : Nat → Int32 → Option (Int32)
  | 0, _ => none
  | n + 1, v2 =>
    if 4 ≤ v2 then
      some v2
    else
      (r_X5_signAt S o ((S.1 o 7) + v2)).bind fun q1 =>
      gd (¬ (v2 < 0 ∨ 4 ≤ v2.toNatClampNeg)) (
        if q1 = (cAt (bAt strB 6) v2.toNatClampNeg) then
          lp_X5_alike_6_2 S o n (v2 + 1)
        else
          some v2)
def r_X5_alike_6 (S : St) (o : Nat) : Option Int32 :=
  (lp_X5_alike_6_2 S o 4000 0).bind fun q2 =>
    some q2
set_option maxRecDepth 20000 in
set_option maxHeartbeats 4000000 in
theorem e_lp_X5_alike_6_2_40 (d : Nat) (hs : List Hr) (P : Option Value → Hp → Prop) (S : St) : ∀ (n : Nat) (v2 : Int32) (q : Int32), lp_X5_alike_6_2 S 40 n v2 = some q → (WM mi_X5_alike (d + 1) P 34 [some (.ref 40), some (.ref 6), some (.int q)] [] (st S hs)) → WM mi_X5_alike (d + 1) P 2 [some (.ref 40), some (.ref 6), some (.int v2)] [] (st S hs) := by
  intro n
  induction n with
  | zero =>
    intro v2 q hl
    cases hl
  | succ n ih =>
    intro v2 q hl ct
    rw [lp_X5_alike_6_2] at hl
    refine Wp.stepsG 4 (fun cal X P' hk hX hP => ?_)
    show (4 ≤ v2 → X (34, [some (.ref 40), some (.ref 6), some (.int v2)], [], st S hs, 0, 0)) ∧ (¬ 4 ≤ v2 → X (10, [some (.ref 40), some (.ref 6), some (.int v2)], [], st S hs, 0, 0))
    refine ⟨fun hc => hX _ ?_, fun hc => hX _ ?_⟩
    · clear hP hX hk P' X cal
      rw [if_pos hc] at hl
      have hl := Option.some.inj hl
      subst hl
      exact (ct)
    · clear hP hX hk P' X cal
      rw [if_neg hc] at hl
      refine Wp.stepsG 6 (fun cal X P' hk hX hP => ?_)
      show kcall cal ix_X5_signAt [.ref 40, .int ((S.1 40 7) + v2)] (st S hs) [] 0 0 (0, 0) (fun v σ' c' m' => X (20, [some (.ref 40), some (.ref 6), some (.int v2)], v.toList ++ [], σ', c', m'))
      obtain ⟨q1, hq1, hl⟩ := bd_some hl
      refine kcall0 rfl (hk _ _ _ _ _ _ (e_X5_signAt_40 (d + 0) S hs ((S.1 40 7) + v2) q1 hq1 _ ?_))
      show X (20, [some (.ref 40), some (.ref 6), some (.int v2)], [.int q1], st S hs, 0, 0)
      refine hX _ ?_
      clear hP hX hk P' X cal
      refine Wp.stepsG 3 (fun cal X P' hk hX hP => ?_)
      show vp_in v2 4 ∧ X (25, [some (.ref 40), some (.ref 6), some (.int v2)], [.int (cAt (bAt strB 6) v2.toNatClampNeg), .int q1], st S hs, 0, 0)
      obtain ⟨hg, hl⟩ := gd_some hl
      refine ⟨hg, hX _ ?_⟩
      clear hP hX hk P' X cal
      refine Wp.stepsG 1 (fun cal X P' hk hX hP => ?_)
      show (¬ q1 = (cAt (bAt strB 6) v2.toNatClampNeg) → X (34, [some (.ref 40), some (.ref 6), some (.int v2)], [], st S hs, 0, 0)) ∧ (q1 = (cAt (bAt strB 6) v2.toNatClampNeg) → X (28, [some (.ref 40), some (.ref 6), some (.int v2)], [], st S hs, 0, 0))
      refine ⟨fun hc => hX _ ?_, fun hc => hX _ ?_⟩
      · clear hP hX hk P' X cal
        rw [if_neg hc] at hl
        have hl := Option.some.inj hl
        subst hl
        exact (ct)
      · clear hP hX hk P' X cal
        rw [if_pos hc] at hl
        refine Wp.stepsG 2 (fun cal X P' hk hX hP => ?_)
        show X (2, [some (.ref 40), some (.ref 6), some (.int (v2 + 1))], [], st S hs, 0, 0)
        refine hX _ ?_
        exact (ih (v2 + 1) q hl ct)
set_option maxRecDepth 20000 in
set_option maxHeartbeats 4000000 in
theorem e_X5_alike_6_40 (d : Nat) (S : St) (hs : List Hr) (v : Int32) (hr : r_X5_alike_6 S 40 = some v) (P : Option Value → Hp → Prop) (h : P (some (.int v)) (st S hs)) : Ev (d + 2) ix_X5_alike 0 0 [.ref 40, .ref 6] (st S hs) P := by
  refine Ev.intro (M := mi_X5_alike) rfl (Nat.le_of_ble_eq_true rfl) ?_
  unfold r_X5_alike_6 at hr
  refine Wp.stepsG 2 (fun cal X P' hk hX hP => ?_)
  show X (2, [some (.ref 40), some (.ref 6), some (.int 0)], [], st S hs, 0, 0)
  refine hX _ ?_
  clear hP hX hk P' X cal
  obtain ⟨q2, hq2, hr⟩ := bd_some hr
  refine (e_lp_X5_alike_6_2_40 d hs P S _ 0 q2 hq2 ?_)
  have hr := Option.some.inj hr
  subst hr
  refine Wp.stepsG 2 (fun cal X P' hk hX hP => ?_)
  exact hP _ _ h
def lp_X5_goByWord_4 (S : St) (o : Nat) : Nat → Int32 → Int32 → Option (Nat × Int32 × Int32 × Int32)
  | 0, _, _ => none
  | n + 1, v1, v2 =>
    if 4 ≤ v2 then
      some (1, v1, v2, 0)
    else
      if r_X5_wordOf v2 = some 3 then
        (r_X5_alike_3 S o).bind fun q1 =>
        if q1 = 3 then
          some (0, v1, v2, q1)
        else
          lp_X5_goByWord_4 S o n (if v1 < q1 then q1 else v1) (v2 + 1)
      else
      if r_X5_wordOf v2 = some 4 then
        (r_X5_alike_4 S o).bind fun q2 =>
        if q2 = 4 then
          some (0, v1, v2, q2)
        else
          lp_X5_goByWord_4 S o n (if v1 < q2 then q2 else v1) (v2 + 1)
      else
      if r_X5_wordOf v2 = some 5 then
        (r_X5_alike_5 S o).bind fun q3 =>
        if q3 = 4 then
          some (0, v1, v2, q3)
        else
          lp_X5_goByWord_4 S o n (if v1 < q3 then q3 else v1) (v2 + 1)
      else
        (r_X5_alike_6 S o).bind fun q4 =>
        if q4 = 4 then
          some (0, v1, v2, q4)
        else
          lp_X5_goByWord_4 S o n (if v1 < q4 then q4 else v1) (v2 + 1)
def r_X5_goByWord (S : St) (o : Nat) : Option (Int32 × St) :=
  (lp_X5_goByWord_4 S o 4000 0 0).bind fun q5 =>
  if q5.1 = 0 then
    some (q5.2.2.1, sI S o 7 ((S.1 o 7) + q5.2.2.2))
  else
    some ((-1), sI S o 7 ((S.1 o 7) + q5.2.1))
set_option maxRecDepth 20000 in
set_option maxHeartbeats 4000000 in
theorem e_lp_X5_goByWord_4_40 (d : Nat) (hs : List Hr) (P : Option Value → Hp → Prop) (S : St) : ∀ (n : Nat) (v1 : Int32) (v2 : Int32) (q : Nat × Int32 × Int32 × Int32), lp_X5_goByWord_4 S 40 n v1 v2 = some q → (q.1 = 0 → WM mi_X5_goByWord (d + 2) P 30 [some (.ref 40), none, some (.int q.2.2.1), none, some (.int q.2.2.2)] [] (st S hs)) ∧ (q.1 = 1 → WM mi_X5_goByWord (d + 2) P 56 [some (.ref 40), some (.int q.2.1), none, none, none] [] (st S hs)) → WM mi_X5_goByWord (d + 2) P 4 [some (.ref 40), some (.int v1), some (.int v2), none, none] [] (st S hs) := by
  intro n
  induction n with
  | zero =>
    intro v1 v2 q hl
    cases hl
  | succ n ih =>
    intro v1 v2 q hl ct
    rw [lp_X5_goByWord_4] at hl
    refine Wp.stepsG 3 (fun cal X P' hk hX hP => ?_)
    show (4 ≤ v2 → X (56, [some (.ref 40), some (.int v1), some (.int v2), none, none], [], st S hs, 0, 0)) ∧ (¬ 4 ≤ v2 → X (9, [some (.ref 40), some (.int v1), some (.int v2), none, none], [], st S hs, 0, 0))
    refine ⟨fun hc => hX _ ?_, fun hc => hX _ ?_⟩
    · clear hP hX hk P' X cal
      rw [if_pos hc] at hl
      have hl := Option.some.inj hl
      subst hl
      exact Wp.weak (leL.k (leL.k (leL.n (leL.k (leL.k leL.z))))) (ct.2 rfl)
    · clear hP hX hk P' X cal
      rw [if_neg hc] at hl
      refine Wp.stepsG 2 (fun cal X P' hk hX hP => ?_)
      show kcall cal ix_X5_wordOf [.int v2] (st S hs) [] 0 0 (0, 0) (fun v σ' c' m' => X (13, [some (.ref 40), some (.int v1), some (.int v2), none, none], v.toList ++ [], σ', c', m'))
      refine kcall0 rfl (hk _ _ _ _ _ _ (e_X5_wordOf (d + 1) S hs v2 _ ?_))
      show X (13, [some (.ref 40), some (.int v1), some (.int v2), none, none], [va_rf (r_X5_wordOf v2)], st S hs, 0, 0)
      refine hX _ ?_
      clear hP hX hk P' X cal
      rcases c_X5_wordOf v2 with hz6 | hz6 | hz6 | hz6
      · rw [hz6]
        rw [if_pos hz6] at hl
        refine Wp.stepsG 4 (fun cal X P' hk hX hP => ?_)
        show kcall cal ix_X5_alike [.ref 40, .ref 3] (st S hs) [] 0 0 (0, 0) (fun v σ' c' m' => X (19, [some (.ref 40), some (.int v1), some (.int v2), some (.ref 3), none], v.toList ++ [], σ', c', m'))
        obtain ⟨q1, hq1, hl⟩ := bd_some hl
        refine kcall0 rfl (hk _ _ _ _ _ _ (e_X5_alike_3_40 (d + 0) S hs q1 hq1 _ ?_))
        show X (19, [some (.ref 40), some (.int v1), some (.int v2), some (.ref 3), none], [.int q1], st S hs, 0, 0)
        refine hX _ ?_
        clear hP hX hk P' X cal
        refine Wp.stepsG 5 (fun cal X P' hk hX hP => ?_)
        show (¬ q1 = 3 → X (43, [some (.ref 40), some (.int v1), some (.int v2), some (.ref 3), some (.int q1)], [], st S hs, 0, 0)) ∧ (q1 = 3 → X (30, [some (.ref 40), some (.int v1), some (.int v2), some (.ref 3), some (.int q1)], [], st S hs, 0, 0))
        refine ⟨fun hc => hX _ ?_, fun hc => hX _ ?_⟩
        · clear hP hX hk P' X cal
          rw [if_neg hc] at hl
          refine Wp.stepsG 6 (fun cal X P' hk hX hP => ?_)
          show X (4, [some (.ref 40), some (.int (if v1 < q1 then q1 else v1)), some (.int (v2 + 1)), some (.ref 3), some (.int q1)], [], st S hs, 0, 0)
          refine hX _ ?_
          exact Wp.weak (leL.k (leL.k (leL.k (leL.n (leL.n leL.z))))) (ih (if v1 < q1 then q1 else v1) (v2 + 1) q hl ct)
        · clear hP hX hk P' X cal
          rw [if_pos hc] at hl
          have hl := Option.some.inj hl
          subst hl
          exact Wp.weak (leL.k (leL.n (leL.k (leL.n (leL.k leL.z))))) (ct.1 rfl)
      · rw [hz6]
        rw [if_neg (fun z => absurd (hz6.symm.trans z) (by decide))] at hl
        rw [if_pos hz6] at hl
        refine Wp.stepsG 4 (fun cal X P' hk hX hP => ?_)
        show kcall cal ix_X5_alike [.ref 40, .ref 4] (st S hs) [] 0 0 (0, 0) (fun v σ' c' m' => X (19, [some (.ref 40), some (.int v1), some (.int v2), some (.ref 4), none], v.toList ++ [], σ', c', m'))
        obtain ⟨q2, hq2, hl⟩ := bd_some hl
        refine kcall0 rfl (hk _ _ _ _ _ _ (e_X5_alike_4_40 (d + 0) S hs q2 hq2 _ ?_))
        show X (19, [some (.ref 40), some (.int v1), some (.int v2), some (.ref 4), none], [.int q2], st S hs, 0, 0)
        refine hX _ ?_
        clear hP hX hk P' X cal
        refine Wp.stepsG 5 (fun cal X P' hk hX hP => ?_)
        show (¬ q2 = 4 → X (43, [some (.ref 40), some (.int v1), some (.int v2), some (.ref 4), some (.int q2)], [], st S hs, 0, 0)) ∧ (q2 = 4 → X (30, [some (.ref 40), some (.int v1), some (.int v2), some (.ref 4), some (.int q2)], [], st S hs, 0, 0))
        refine ⟨fun hc => hX _ ?_, fun hc => hX _ ?_⟩
        · clear hP hX hk P' X cal
          rw [if_neg hc] at hl
          refine Wp.stepsG 6 (fun cal X P' hk hX hP => ?_)
          show X (4, [some (.ref 40), some (.int (if v1 < q2 then q2 else v1)), some (.int (v2 + 1)), some (.ref 4), some (.int q2)], [], st S hs, 0, 0)
          refine hX _ ?_
          exact Wp.weak (leL.k (leL.k (leL.k (leL.n (leL.n leL.z))))) (ih (if v1 < q2 then q2 else v1) (v2 + 1) q hl ct)
        · clear hP hX hk P' X cal
          rw [if_pos hc] at hl
          have hl := Option.some.inj hl
          subst hl
          exact Wp.weak (leL.k (leL.n (leL.k (leL.n (leL.k leL.z))))) (ct.1 rfl)
      · rw [hz6]
        rw [if_neg (fun z => absurd (hz6.symm.trans z) (by decide))] at hl
        rw [if_neg (fun z => absurd (hz6.symm.trans z) (by decide))] at hl
        rw [if_pos hz6] at hl
        refine Wp.stepsG 4 (fun cal X P' hk hX hP => ?_)
        show kcall cal ix_X5_alike [.ref 40, .ref 5] (st S hs) [] 0 0 (0, 0) (fun v σ' c' m' => X (19, [some (.ref 40), some (.int v1), some (.int v2), some (.ref 5), none], v.toList ++ [], σ', c', m'))
        obtain ⟨q3, hq3, hl⟩ := bd_some hl
        refine kcall0 rfl (hk _ _ _ _ _ _ (e_X5_alike_5_40 (d + 0) S hs q3 hq3 _ ?_))
        show X (19, [some (.ref 40), some (.int v1), some (.int v2), some (.ref 5), none], [.int q3], st S hs, 0, 0)
        refine hX _ ?_
        clear hP hX hk P' X cal
        refine Wp.stepsG 5 (fun cal X P' hk hX hP => ?_)
        show (¬ q3 = 4 → X (43, [some (.ref 40), some (.int v1), some (.int v2), some (.ref 5), some (.int q3)], [], st S hs, 0, 0)) ∧ (q3 = 4 → X (30, [some (.ref 40), some (.int v1), some (.int v2), some (.ref 5), some (.int q3)], [], st S hs, 0, 0))
        refine ⟨fun hc => hX _ ?_, fun hc => hX _ ?_⟩
        · clear hP hX hk P' X cal
          rw [if_neg hc] at hl
          refine Wp.stepsG 6 (fun cal X P' hk hX hP => ?_)
          show X (4, [some (.ref 40), some (.int (if v1 < q3 then q3 else v1)), some (.int (v2 + 1)), some (.ref 5), some (.int q3)], [], st S hs, 0, 0)
          refine hX _ ?_
          exact Wp.weak (leL.k (leL.k (leL.k (leL.n (leL.n leL.z))))) (ih (if v1 < q3 then q3 else v1) (v2 + 1) q hl ct)
        · clear hP hX hk P' X cal
          rw [if_pos hc] at hl
          have hl := Option.some.inj hl
          subst hl
          exact Wp.weak (leL.k (leL.n (leL.k (leL.n (leL.k leL.z))))) (ct.1 rfl)
      · rw [hz6]
        rw [if_neg (fun z => absurd (hz6.symm.trans z) (by decide))] at hl
        rw [if_neg (fun z => absurd (hz6.symm.trans z) (by decide))] at hl
        rw [if_neg (fun z => absurd (hz6.symm.trans z) (by decide))] at hl
        refine Wp.stepsG 4 (fun cal X P' hk hX hP => ?_)
        show kcall cal ix_X5_alike [.ref 40, .ref 6] (st S hs) [] 0 0 (0, 0) (fun v σ' c' m' => X (19, [some (.ref 40), some (.int v1), some (.int v2), some (.ref 6), none], v.toList ++ [], σ', c', m'))
        obtain ⟨q4, hq4, hl⟩ := bd_some hl
        refine kcall0 rfl (hk _ _ _ _ _ _ (e_X5_alike_6_40 (d + 0) S hs q4 hq4 _ ?_))
        show X (19, [some (.ref 40), some (.int v1), some (.int v2), some (.ref 6), none], [.int q4], st S hs, 0, 0)
        refine hX _ ?_
        clear hP hX hk P' X cal
        refine Wp.stepsG 5 (fun cal X P' hk hX hP => ?_)
        show (¬ q4 = 4 → X (43, [some (.ref 40), some (.int v1), some (.int v2), some (.ref 6), some (.int q4)], [], st S hs, 0, 0)) ∧ (q4 = 4 → X (30, [some (.ref 40), some (.int v1), some (.int v2), some (.ref 6), some (.int q4)], [], st S hs, 0, 0))
        refine ⟨fun hc => hX _ ?_, fun hc => hX _ ?_⟩
        · clear hP hX hk P' X cal
          rw [if_neg hc] at hl
          refine Wp.stepsG 6 (fun cal X P' hk hX hP => ?_)
          show X (4, [some (.ref 40), some (.int (if v1 < q4 then q4 else v1)), some (.int (v2 + 1)), some (.ref 6), some (.int q4)], [], st S hs, 0, 0)
          refine hX _ ?_
          exact Wp.weak (leL.k (leL.k (leL.k (leL.n (leL.n leL.z))))) (ih (if v1 < q4 then q4 else v1) (v2 + 1) q hl ct)
        · clear hP hX hk P' X cal
          rw [if_pos hc] at hl
          have hl := Option.some.inj hl
          subst hl
          exact Wp.weak (leL.k (leL.n (leL.k (leL.n (leL.k leL.z))))) (ct.1 rfl)
set_option maxRecDepth 20000 in
set_option maxHeartbeats 4000000 in
theorem e_X5_goByWord_40 (d : Nat) (S : St) (hs : List Hr) (v : Int32 × St) (hr : r_X5_goByWord S 40 = some v) (P : Option Value → Hp → Prop) (h : P (some (.int v.1)) (st v.2 hs)) : Ev (d + 3) ix_X5_goByWord 0 0 [.ref 40] (st S hs) P := by
  refine Ev.intro (M := mi_X5_goByWord) rfl (Nat.le_of_ble_eq_true rfl) ?_
  unfold r_X5_goByWord at hr
  refine Wp.stepsG 4 (fun cal X P' hk hX hP => ?_)
  show X (4, [some (.ref 40), some (.int 0), some (.int 0), none, none], [], st S hs, 0, 0)
  refine hX _ ?_
  clear hP hX hk P' X cal
  obtain ⟨q5, hq5, hr⟩ := bd_some hr
  refine (e_lp_X5_goByWord_4_40 d hs P S _ 0 0 q5 hq5 ?_)
  refine ⟨fun hc => ?_, fun hc => ?_⟩
  · have hcc := hc
    rw [if_pos hcc] at hr
    have hr := Option.some.inj hr
    subst hr
    refine Wp.stepsG 8 (fun cal X P' hk hX hP => ?_)
    exact hP _ _ h
  · have hcc := hc
    rw [if_neg (fun z => by rw [z] at hcc; exact absurd hcc (by decide))] at hr
    have hr := Option.some.inj hr
    subst hr
    refine Wp.stepsG 8 (fun cal X P' hk hX hP => ?_)
    exact hP _ _ h
def r_X5_goBy (S : St) (o : Nat) (a1 : Int32) : Option (Int32 × St) :=
  (r_X5_signAt S o (S.1 o 7)).bind fun q1 =>
  if q1 = a1 then
    some (1, sI S o 7 ((S.1 o 7) + 1))
  else
    some (0, S)
set_option maxRecDepth 20000 in
set_option maxHeartbeats 4000000 in
theorem e_X5_goBy_40 (d : Nat) (S : St) (hs : List Hr) (a1 : Int32) (v : Int32 × St) (hr : r_X5_goBy S 40 a1 = some v) (P : Option Value → Hp → Prop) (h : P (some (.int v.1)) (st v.2 hs)) : Ev (d + 2) ix_X5_goBy 0 0 [.ref 40, .int a1] (st S hs) P := by
  refine Ev.intro (M := mi_X5_goBy) rfl (Nat.le_of_ble_eq_true rfl) ?_
  unfold r_X5_goBy at hr
  refine Wp.stepsG 4 (fun cal X P' hk hX hP => ?_)
  show kcall cal ix_X5_signAt [.ref 40, .int (S.1 40 7)] (st S hs) [] 0 0 (0, 0) (fun v σ' c' m' => X (8, [some (.ref 40), some (.int a1)], v.toList ++ [], σ', c', m'))
  obtain ⟨q1, hq1, hr⟩ := bd_some hr
  refine kcall0 rfl (hk _ _ _ _ _ _ (e_X5_signAt_40 (d + 0) S hs (S.1 40 7) q1 hq1 _ ?_))
  show X (8, [some (.ref 40), some (.int a1)], [.int q1], st S hs, 0, 0)
  refine hX _ ?_
  clear hP hX hk P' X cal
  refine Wp.stepsG 2 (fun cal X P' hk hX hP => ?_)
  show (q1 = a1 → X (14, [some (.ref 40), some (.int a1)], [], st S hs, 0, 0)) ∧ (¬ q1 = a1 → X (12, [some (.ref 40), some (.int a1)], [], st S hs, 0, 0))
  refine ⟨fun hc => hX _ ?_, fun hc => hX _ ?_⟩
  · clear hP hX hk P' X cal
    rw [if_pos hc] at hr
    have hr := Option.some.inj hr
    subst hr
    refine Wp.stepsG 8 (fun cal X P' hk hX hP => ?_)
    exact ⟨Or.inr rfl, hP _ _ h⟩
  · clear hP hX hk P' X cal
    rw [if_neg hc] at hr
    have hr := Option.some.inj hr
    subst hr
    refine Wp.stepsG 2 (fun cal X P' hk hX hP => ?_)
    exact ⟨Or.inl rfl, hP _ _ h⟩
def lp_X5_goByNumber_4 (o : Nat) : Nat → Int32 → Int32 → St → Option (Int32 × St)
  | 0, _, _, _ => none
  | n + 1, v1, v2, S =>
    if 2 ≤ v2 then
      some (v1, S)
    else
      (r_X5_signAt S o (S.1 o 7)).bind fun q1 =>
      if q1 < 48 then
        some (v1, S)
      else
        (r_X5_signAt S o (S.1 o 7)).bind fun q2 =>
        if 57 < q2 then
          some (v1, S)
        else
          (r_X5_signAt S o (S.1 o 7)).bind fun q3 =>
          lp_X5_goByNumber_4 o n ((((if v1 < 0 then 0 else v1) * 10) + q3) - 48) (v2 + 1) (sI S o 7 ((S.1 o 7) + 1))
def r_X5_goByNumber (S : St) (o : Nat) : Option (Int32 × St) :=
  (lp_X5_goByNumber_4 o 4000 (-1) 0 S).bind fun q4 =>
    some (q4.1, q4.2)
set_option maxRecDepth 20000 in
set_option maxHeartbeats 4000000 in
theorem e_lp_X5_goByNumber_4_40 (d : Nat) (hs : List Hr) (P : Option Value → Hp → Prop) : ∀ (n : Nat) (v1 : Int32) (v2 : Int32) (S : St) (q : Int32 × St), lp_X5_goByNumber_4 40 n v1 v2 S = some q → (WM mi_X5_goByNumber (d + 1) P 72 [some (.ref 40), some (.int q.1), none] [] (st q.2 hs)) → WM mi_X5_goByNumber (d + 1) P 4 [some (.ref 40), some (.int v1), some (.int v2)] [] (st S hs) := by
  intro n
  induction n with
  | zero =>
    intro v1 v2 S q hl
    cases hl
  | succ n ih =>
    intro v1 v2 S q hl ct
    rw [lp_X5_goByNumber_4] at hl
    refine Wp.stepsG 3 (fun cal X P' hk hX hP => ?_)
    show (2 ≤ v2 → X (72, [some (.ref 40), some (.int v1), some (.int v2)], [], st S hs, 0, 0)) ∧ (¬ 2 ≤ v2 → X (9, [some (.ref 40), some (.int v1), some (.int v2)], [], st S hs, 0, 0))
    refine ⟨fun hc => hX _ ?_, fun hc => hX _ ?_⟩
    · clear hP hX hk P' X cal
      rw [if_pos hc] at hl
      have hl := Option.some.inj hl
      subst hl
      exact Wp.weak (leL.k (leL.k (leL.n leL.z))) (ct)
    · clear hP hX hk P' X cal
      rw [if_neg hc] at hl
      refine Wp.stepsG 4 (fun cal X P' hk hX hP => ?_)
      show kcall cal ix_X5_signAt [.ref 40, .int (S.1 40 7)] (st S hs) [] 0 0 (0, 0) (fun v σ' c' m' => X (17, [some (.ref 40), some (.int v1), some (.int v2)], v.toList ++ [], σ', c', m'))
      obtain ⟨q1, hq1, hl⟩ := bd_some hl
      refine kcall0 rfl (hk _ _ _ _ _ _ (e_X5_signAt_40 (d + 0) S hs (S.1 40 7) q1 hq1 _ ?_))
      show X (17, [some (.ref 40), some (.int v1), some (.int v2)], [.int q1], st S hs, 0, 0)
      refine hX _ ?_
      clear hP hX hk P' X cal
      refine Wp.stepsG 2 (fun cal X P' hk hX hP => ?_)
      show (q1 < 48 → X (72, [some (.ref 40), some (.int v1), some (.int v2)], [], st S hs, 0, 0)) ∧ (¬ q1 < 48 → X (22, [some (.ref 40), some (.int v1), some (.int v2)], [], st S hs, 0, 0))
      refine ⟨fun hc => hX _ ?_, fun hc => hX _ ?_⟩
      · clear hP hX hk P' X cal
        rw [if_pos hc] at hl
        have hl := Option.some.inj hl
        subst hl
        exact Wp.weak (leL.k (leL.k (leL.n leL.z))) (ct)
      · clear hP hX hk P' X cal
        rw [if_neg hc] at hl
        refine Wp.stepsG 4 (fun cal X P' hk hX hP => ?_)
        show kcall cal ix_X5_signAt [.ref 40, .int (S.1 40 7)] (st S hs) [] 0 0 (0, 0) (fun v σ' c' m' => X (30, [some (.ref 40), some (.int v1), some (.int v2)], v.toList ++ [], σ', c', m'))
        obtain ⟨q2, hq2, hl⟩ := bd_some hl
        refine kcall0 rfl (hk _ _ _ _ _ _ (e_X5_signAt_40 (d + 0) S hs (S.1 40 7) q2 hq2 _ ?_))
        show X (30, [some (.ref 40), some (.int v1), some (.int v2)], [.int q2], st S hs, 0, 0)
        refine hX _ ?_
        clear hP hX hk P' X cal
        refine Wp.stepsG 2 (fun cal X P' hk hX hP => ?_)
        show (57 < q2 → X (72, [some (.ref 40), some (.int v1), some (.int v2)], [], st S hs, 0, 0)) ∧ (¬ 57 < q2 → X (35, [some (.ref 40), some (.int v1), some (.int v2)], [], st S hs, 0, 0))
        refine ⟨fun hc => hX _ ?_, fun hc => hX _ ?_⟩
        · clear hP hX hk P' X cal
          rw [if_pos hc] at hl
          have hl := Option.some.inj hl
          subst hl
          exact Wp.weak (leL.k (leL.k (leL.n leL.z))) (ct)
        · clear hP hX hk P' X cal
          rw [if_neg hc] at hl
          refine Wp.stepsG 9 (fun cal X P' hk hX hP => ?_)
          show kcall cal ix_X5_signAt [.ref 40, .int (S.1 40 7)] (st S hs) [.int ((if v1 < 0 then 0 else v1) * 10)] 0 0 (0, 0) (fun v σ' c' m' => X (51, [some (.ref 40), some (.int v1), some (.int v2)], v.toList ++ [.int ((if v1 < 0 then 0 else v1) * 10)], σ', c', m'))
          obtain ⟨q3, hq3, hl⟩ := bd_some hl
          refine kcall0 rfl (hk _ _ _ _ _ _ (e_X5_signAt_40 (d + 0) S hs (S.1 40 7) q3 hq3 _ ?_))
          show X (51, [some (.ref 40), some (.int v1), some (.int v2)], [.int q3, .int ((if v1 < 0 then 0 else v1) * 10)], st S hs, 0, 0)
          refine hX _ ?_
          clear hP hX hk P' X cal
          refine Wp.stepsG 12 (fun cal X P' hk hX hP => ?_)
          show X (4, [some (.ref 40), some (.int ((((if v1 < 0 then 0 else v1) * 10) + q3) - 48)), some (.int (v2 + 1))], [], st (sI S 40 7 ((S.1 40 7) + 1)) hs, 0, 0)
          refine hX _ ?_
          exact (ih ((((if v1 < 0 then 0 else v1) * 10) + q3) - 48) (v2 + 1) (sI S 40 7 ((S.1 40 7) + 1)) q hl ct)
set_option maxRecDepth 20000 in
set_option maxHeartbeats 4000000 in
theorem e_X5_goByNumber_40 (d : Nat) (S : St) (hs : List Hr) (v : Int32 × St) (hr : r_X5_goByNumber S 40 = some v) (P : Option Value → Hp → Prop) (h : P (some (.int v.1)) (st v.2 hs)) : Ev (d + 2) ix_X5_goByNumber 0 0 [.ref 40] (st S hs) P := by
  refine Ev.intro (M := mi_X5_goByNumber) rfl (Nat.le_of_ble_eq_true rfl) ?_
  unfold r_X5_goByNumber at hr
  refine Wp.stepsG 4 (fun cal X P' hk hX hP => ?_)
  show X (4, [some (.ref 40), some (.int (-1)), some (.int 0)], [], st S hs, 0, 0)
  refine hX _ ?_
  clear hP hX hk P' X cal
  obtain ⟨q4, hq4, hr⟩ := bd_some hr
  refine (e_lp_X5_goByNumber_4_40 d hs P _ (-1) 0 S q4 hq4 ?_)
  have hr := Option.some.inj hr
  subst hr
  refine Wp.stepsG 2 (fun cal X P' hk hX hP => ?_)
  exact hP _ _ h
def lp_X5_goByOneOf_1_2 (S : St) (o : Nat) : Nat → Int32 → Option (Nat × Int32)
  | 0, _ => none
  | n + 1, v2 =>
    if 6 ≤ v2 then
      some (1, v2)
    else
      (r_X5_signAt S o (S.1 o 7)).bind fun q1 =>
      gd (¬ (v2 < 0 ∨ 6 ≤ v2.toNatClampNeg)) (
        if q1 = (cAt (bAt strB 1) v2.toNatClampNeg) then
          some (0, v2)
        else
          lp_X5_goByOneOf_1_2 S o n (v2 + 1))
def r_X5_goByOneOf_1 (S : St) (o : Nat) : Option (Int32 × St) :=
  (lp_X5_goByOneOf_1_2 S o 4000 0).bind fun q2 =>
  if q2.1 = 0 then
    some (q2.2, sI S o 7 ((S.1 o 7) + 1))
  else
    some ((-1), S)
set_option maxRecDepth 20000 in
set_option maxHeartbeats 4000000 in
theorem e_lp_X5_goByOneOf_1_2_40 (d : Nat) (hs : List Hr) (P : Option Value → Hp → Prop) (S : St) : ∀ (n : Nat) (v2 : Int32) (q : Nat × Int32), lp_X5_goByOneOf_1_2 S 40 n v2 = some q → (q.1 = 0 → WM mi_X5_goByOneOf (d + 1) P 26 [some (.ref 40), some (.ref 1), some (.int q.2)] [] (st S hs)) ∧ (q.1 = 1 → WM mi_X5_goByOneOf (d + 1) P 44 [some (.ref 40), some (.ref 1), none] [] (st S hs)) → WM mi_X5_goByOneOf (d + 1) P 2 [some (.ref 40), some (.ref 1), some (.int v2)] [] (st S hs) := by
  intro n
  induction n with
  | zero =>
    intro v2 q hl
    cases hl
  | succ n ih =>
    intro v2 q hl ct
    rw [lp_X5_goByOneOf_1_2] at hl
    refine Wp.stepsG 4 (fun cal X P' hk hX hP => ?_)
    show (6 ≤ v2 → X (44, [some (.ref 40), some (.ref 1), some (.int v2)], [], st S hs, 0, 0)) ∧ (¬ 6 ≤ v2 → X (10, [some (.ref 40), some (.ref 1), some (.int v2)], [], st S hs, 0, 0))
    refine ⟨fun hc => hX _ ?_, fun hc => hX _ ?_⟩
    · clear hP hX hk P' X cal
      rw [if_pos hc] at hl
      have hl := Option.some.inj hl
      subst hl
      exact Wp.weak (leL.k (leL.k (leL.n leL.z))) (ct.2 rfl)
    · clear hP hX hk P' X cal
      rw [if_neg hc] at hl
      refine Wp.stepsG 4 (fun cal X P' hk hX hP => ?_)
      show kcall cal ix_X5_signAt [.ref 40, .int (S.1 40 7)] (st S hs) [] 0 0 (0, 0) (fun v σ' c' m' => X (18, [some (.ref 40), some (.ref 1), some (.int v2)], v.toList ++ [], σ', c', m'))
      obtain ⟨q1, hq1, hl⟩ := bd_some hl
      refine kcall0 rfl (hk _ _ _ _ _ _ (e_X5_signAt_40 (d + 0) S hs (S.1 40 7) q1 hq1 _ ?_))
      show X (18, [some (.ref 40), some (.ref 1), some (.int v2)], [.int q1], st S hs, 0, 0)
      refine hX _ ?_
      clear hP hX hk P' X cal
      refine Wp.stepsG 3 (fun cal X P' hk hX hP => ?_)
      show vp_in v2 6 ∧ X (23, [some (.ref 40), some (.ref 1), some (.int v2)], [.int (cAt (bAt strB 1) v2.toNatClampNeg), .int q1], st S hs, 0, 0)
      obtain ⟨hg, hl⟩ := gd_some hl
      refine ⟨hg, hX _ ?_⟩
      clear hP hX hk P' X cal
      refine Wp.stepsG 1 (fun cal X P' hk hX hP => ?_)
      show (¬ q1 = (cAt (bAt strB 1) v2.toNatClampNeg) → X (38, [some (.ref 40), some (.ref 1), some (.int v2)], [], st S hs, 0, 0)) ∧ (q1 = (cAt (bAt strB 1) v2.toNatClampNeg) → X (26, [some (.ref 40), some (.ref 1), some (.int v2)], [], st S hs, 0, 0))
      refine ⟨fun hc => hX _ ?_, fun hc => hX _ ?_⟩
      · clear hP hX hk P' X cal
        rw [if_neg hc] at hl
        refine Wp.stepsG 2 (fun cal X P' hk hX hP => ?_)
        show X (2, [some (.ref 40), some (.ref 1), some (.int (v2 + 1))], [], st S hs, 0, 0)
        refine hX _ ?_
        exact (ih (v2 + 1) q hl ct)
      · clear hP hX hk P' X cal
        rw [if_pos hc] at hl
        have hl := Option.some.inj hl
        subst hl
        exact (ct.1 rfl)
set_option maxRecDepth 20000 in
set_option maxHeartbeats 4000000 in
theorem e_X5_goByOneOf_1_40 (d : Nat) (S : St) (hs : List Hr) (v : Int32 × St) (hr : r_X5_goByOneOf_1 S 40 = some v) (P : Option Value → Hp → Prop) (h : P (some (.int v.1)) (st v.2 hs)) : Ev (d + 2) ix_X5_goByOneOf 0 0 [.ref 40, .ref 1] (st S hs) P := by
  refine Ev.intro (M := mi_X5_goByOneOf) rfl (Nat.le_of_ble_eq_true rfl) ?_
  unfold r_X5_goByOneOf_1 at hr
  refine Wp.stepsG 2 (fun cal X P' hk hX hP => ?_)
  show X (2, [some (.ref 40), some (.ref 1), some (.int 0)], [], st S hs, 0, 0)
  refine hX _ ?_
  clear hP hX hk P' X cal
  obtain ⟨q2, hq2, hr⟩ := bd_some hr
  refine (e_lp_X5_goByOneOf_1_2_40 d hs P S _ 0 q2 hq2 ?_)
  refine ⟨fun hc => ?_, fun hc => ?_⟩
  · have hcc := hc
    rw [if_pos hcc] at hr
    have hr := Option.some.inj hr
    subst hr
    refine Wp.stepsG 8 (fun cal X P' hk hX hP => ?_)
    exact hP _ _ h
  · have hcc := hc
    rw [if_neg (fun z => by rw [z] at hcc; exact absurd hcc (by decide))] at hr
    have hr := Option.some.inj hr
    subst hr
    refine Wp.stepsG 2 (fun cal X P' hk hX hP => ?_)
    exact hP _ _ h
def lp_X5_goByOneOf_2_2 (S : St) (o : Nat) : Nat → Int32 → Option (Nat × Int32)
  | 0, _ => none
  | n + 1, v2 =>
    if 3 ≤ v2 then
      some (1, v2)
    else
      (r_X5_signAt S o (S.1 o 7)).bind fun q1 =>
      gd (¬ (v2 < 0 ∨ 3 ≤ v2.toNatClampNeg)) (
        if q1 = (cAt (bAt strB 2) v2.toNatClampNeg) then
          some (0, v2)
        else
          lp_X5_goByOneOf_2_2 S o n (v2 + 1))
def r_X5_goByOneOf_2 (S : St) (o : Nat) : Option (Int32 × St) :=
  (lp_X5_goByOneOf_2_2 S o 4000 0).bind fun q2 =>
  if q2.1 = 0 then
    some (q2.2, sI S o 7 ((S.1 o 7) + 1))
  else
    some ((-1), S)
set_option maxRecDepth 20000 in
set_option maxHeartbeats 4000000 in
theorem e_lp_X5_goByOneOf_2_2_40 (d : Nat) (hs : List Hr) (P : Option Value → Hp → Prop) (S : St) : ∀ (n : Nat) (v2 : Int32) (q : Nat × Int32), lp_X5_goByOneOf_2_2 S 40 n v2 = some q → (q.1 = 0 → WM mi_X5_goByOneOf (d + 1) P 26 [some (.ref 40), some (.ref 2), some (.int q.2)] [] (st S hs)) ∧ (q.1 = 1 → WM mi_X5_goByOneOf (d + 1) P 44 [some (.ref 40), some (.ref 2), none] [] (st S hs)) → WM mi_X5_goByOneOf (d + 1) P 2 [some (.ref 40), some (.ref 2), some (.int v2)] [] (st S hs) := by
  intro n
  induction n with
  | zero =>
    intro v2 q hl
    cases hl
  | succ n ih =>
    intro v2 q hl ct
    rw [lp_X5_goByOneOf_2_2] at hl
    refine Wp.stepsG 4 (fun cal X P' hk hX hP => ?_)
    show (3 ≤ v2 → X (44, [some (.ref 40), some (.ref 2), some (.int v2)], [], st S hs, 0, 0)) ∧ (¬ 3 ≤ v2 → X (10, [some (.ref 40), some (.ref 2), some (.int v2)], [], st S hs, 0, 0))
    refine ⟨fun hc => hX _ ?_, fun hc => hX _ ?_⟩
    · clear hP hX hk P' X cal
      rw [if_pos hc] at hl
      have hl := Option.some.inj hl
      subst hl
      exact Wp.weak (leL.k (leL.k (leL.n leL.z))) (ct.2 rfl)
    · clear hP hX hk P' X cal
      rw [if_neg hc] at hl
      refine Wp.stepsG 4 (fun cal X P' hk hX hP => ?_)
      show kcall cal ix_X5_signAt [.ref 40, .int (S.1 40 7)] (st S hs) [] 0 0 (0, 0) (fun v σ' c' m' => X (18, [some (.ref 40), some (.ref 2), some (.int v2)], v.toList ++ [], σ', c', m'))
      obtain ⟨q1, hq1, hl⟩ := bd_some hl
      refine kcall0 rfl (hk _ _ _ _ _ _ (e_X5_signAt_40 (d + 0) S hs (S.1 40 7) q1 hq1 _ ?_))
      show X (18, [some (.ref 40), some (.ref 2), some (.int v2)], [.int q1], st S hs, 0, 0)
      refine hX _ ?_
      clear hP hX hk P' X cal
      refine Wp.stepsG 3 (fun cal X P' hk hX hP => ?_)
      show vp_in v2 3 ∧ X (23, [some (.ref 40), some (.ref 2), some (.int v2)], [.int (cAt (bAt strB 2) v2.toNatClampNeg), .int q1], st S hs, 0, 0)
      obtain ⟨hg, hl⟩ := gd_some hl
      refine ⟨hg, hX _ ?_⟩
      clear hP hX hk P' X cal
      refine Wp.stepsG 1 (fun cal X P' hk hX hP => ?_)
      show (¬ q1 = (cAt (bAt strB 2) v2.toNatClampNeg) → X (38, [some (.ref 40), some (.ref 2), some (.int v2)], [], st S hs, 0, 0)) ∧ (q1 = (cAt (bAt strB 2) v2.toNatClampNeg) → X (26, [some (.ref 40), some (.ref 2), some (.int v2)], [], st S hs, 0, 0))
      refine ⟨fun hc => hX _ ?_, fun hc => hX _ ?_⟩
      · clear hP hX hk P' X cal
        rw [if_neg hc] at hl
        refine Wp.stepsG 2 (fun cal X P' hk hX hP => ?_)
        show X (2, [some (.ref 40), some (.ref 2), some (.int (v2 + 1))], [], st S hs, 0, 0)
        refine hX _ ?_
        exact (ih (v2 + 1) q hl ct)
      · clear hP hX hk P' X cal
        rw [if_pos hc] at hl
        have hl := Option.some.inj hl
        subst hl
        exact (ct.1 rfl)
set_option maxRecDepth 20000 in
set_option maxHeartbeats 4000000 in
theorem e_X5_goByOneOf_2_40 (d : Nat) (S : St) (hs : List Hr) (v : Int32 × St) (hr : r_X5_goByOneOf_2 S 40 = some v) (P : Option Value → Hp → Prop) (h : P (some (.int v.1)) (st v.2 hs)) : Ev (d + 2) ix_X5_goByOneOf 0 0 [.ref 40, .ref 2] (st S hs) P := by
  refine Ev.intro (M := mi_X5_goByOneOf) rfl (Nat.le_of_ble_eq_true rfl) ?_
  unfold r_X5_goByOneOf_2 at hr
  refine Wp.stepsG 2 (fun cal X P' hk hX hP => ?_)
  show X (2, [some (.ref 40), some (.ref 2), some (.int 0)], [], st S hs, 0, 0)
  refine hX _ ?_
  clear hP hX hk P' X cal
  obtain ⟨q2, hq2, hr⟩ := bd_some hr
  refine (e_lp_X5_goByOneOf_2_2_40 d hs P S _ 0 q2 hq2 ?_)
  refine ⟨fun hc => ?_, fun hc => ?_⟩
  · have hcc := hc
    rw [if_pos hcc] at hr
    have hr := Option.some.inj hr
    subst hr
    refine Wp.stepsG 8 (fun cal X P' hk hX hP => ?_)
    exact hP _ _ h
  · have hcc := hc
    rw [if_neg (fun z => by rw [z] at hcc; exact absurd hcc (by decide))] at hr
    have hr := Option.some.inj hr
    subst hr
    refine Wp.stepsG 2 (fun cal X P' hk hX hP => ?_)
    exact hP _ _ h
def r_X5_add (S : St) (o : Nat) (a1 : Int32) (a2 : Int32) : Option (Int32 × St) :=
  if (S.1 o 2) < 100 then
    gd (¬ ((S.1 o 2) < 0 ∨ 100 ≤ (S.1 o 2).toNatClampNeg)) (
      gd (¬ ((S.1 o 2) < 0 ∨ 100 ≤ (S.1 o 2).toNatClampNeg)) (
        some (1, sI (sA (sA S (o + 1) (upd (S.1 (o + 1)) (S.1 o 2).toNatClampNeg a1)) (o + 2) (upd (S.1 (o + 2)) (S.1 o 2).toNatClampNeg a2)) o 2 ((S.1 o 2) + 1))))
  else
    some (0, S)
set_option maxRecDepth 20000 in
set_option maxHeartbeats 4000000 in
theorem e_X5_add_40 (d : Nat) (S : St) (hs : List Hr) (a1 : Int32) (a2 : Int32) (v : Int32 × St) (hr : r_X5_add S 40 a1 a2 = some v) (P : Option Value → Hp → Prop) (h : P (some (.int v.1)) (st v.2 hs)) : Ev (d + 1) ix_X5_add 0 0 [.ref 40, .int a1, .int a2] (st S hs) P := by
  refine Ev.intro (M := mi_X5_add) rfl (Nat.le_of_ble_eq_true rfl) ?_
  unfold r_X5_add at hr
  refine Wp.stepsG 6 (fun cal X P' hk hX hP => ?_)
  show ((S.1 40 2) < 100 → X (14, [some (.ref 40), some (.int a1), some (.int a2)], [], st S hs, 0, 0)) ∧ (¬ (S.1 40 2) < 100 → X (12, [some (.ref 40), some (.int a1), some (.int a2)], [], st S hs, 0, 0))
  refine ⟨fun hc => hX _ ?_, fun hc => hX _ ?_⟩
  · clear hP hX hk P' X cal
    rw [if_pos hc] at hr
    refine Wp.stepsG 6 (fun cal X P' hk hX hP => ?_)
    show vp_in (S.1 40 2) 100 ∧ X (24, [some (.ref 40), some (.int a1), some (.int a2)], [], st (sA S 41 (upd (S.1 41) (S.1 40 2).toNatClampNeg a1)) hs, 0, 0)
    obtain ⟨hg, hr⟩ := gd_some hr
    refine ⟨hg, hX _ ?_⟩
    clear hP hX hk P' X cal
    refine Wp.stepsG 6 (fun cal X P' hk hX hP => ?_)
    show vp_in (S.1 40 2) 100 ∧ X (34, [some (.ref 40), some (.int a1), some (.int a2)], [], st (sA (sA S 41 (upd (S.1 41) (S.1 40 2).toNatClampNeg a1)) 42 (upd (S.1 42) (S.1 40 2).toNatClampNeg a2)) hs, 0, 0)
    obtain ⟨hg, hr⟩ := gd_some hr
    refine ⟨hg, hX _ ?_⟩
    clear hP hX hk P' X cal
    have hr := Option.some.inj hr
    subst hr
    refine Wp.stepsG 8 (fun cal X P' hk hX hP => ?_)
    exact ⟨Or.inr rfl, hP _ _ h⟩
  · clear hP hX hk P' X cal
    rw [if_neg hc] at hr
    have hr := Option.some.inj hr
    subst hr
    refine Wp.stepsG 2 (fun cal X P' hk hX hP => ?_)
    exact ⟨Or.inl rfl, hP _ _ h⟩
def r_X5_learnPart_d4 (S : St) (o : Nat) : Option (Int32 × St) :=
  (r_X5_signAt S o (S.1 o 7)).bind fun q1 =>
  if q1 = 33 then
    some (0, S)
  else
    if q1 = 40 then
      some (0, S)
    else
      (r_X5_goByOneOf_1 S o).bind fun q2 =>
      if 0 ≤ q2.1 then
        (r_X5_goByOneOf_2 q2.2 o).bind fun q3 =>
        if 0 ≤ q3.1 then
          (r_X5_goByNumber q3.2 o).bind fun q4 =>
          if q4.1 < 0 then
            some (0, q4.2)
          else
            (r_X5_add q4.2 o (((3 : Int32) * q2.1) + q3.1) q4.1).bind fun q5 =>
            if q5.1 = 0 then
              some (0, q5.2)
            else
              some (1, q5.2)
        else
          some (0, q3.2)
      else
        some (0, q2.2)
set_option maxRecDepth 20000 in
set_option maxHeartbeats 4000000 in
theorem e_X5_learnPart_d4_40 (d : Nat) (S : St) (hs : List Hr) (v : Int32 × St) (hr : r_X5_learnPart_d4 S 40 = some v) (P : Option Value → Hp → Prop) (h : P (some (.int v.1)) (st v.2 hs)) : Ev (d + 3) ix_X5_learnPart 0 0 [.ref 40, .int 4] (st S hs) P := by
  refine Ev.intro (M := mi_X5_learnPart) rfl (Nat.le_of_ble_eq_true rfl) ?_
  unfold r_X5_learnPart_d4 at hr
  refine Wp.stepsG 4 (fun cal X P' hk hX hP => ?_)
  show kcall cal ix_X5_signAt [.ref 40, .int (S.1 40 7)] (st S hs) [] 0 0 (0, 0) (fun v σ' c' m' => X (8, [some (.ref 40), some (.int 4), none, none, none, none], v.toList ++ [], σ', c', m'))
  obtain ⟨q1, hq1, hr⟩ := bd_some hr
  refine kcall0 rfl (hk _ _ _ _ _ _ (e_X5_signAt_40 (d + 1) S hs (S.1 40 7) q1 hq1 _ ?_))
  show X (8, [some (.ref 40), some (.int 4), none, none, none, none], [.int q1], st S hs, 0, 0)
  refine hX _ ?_
  clear hP hX hk P' X cal
  refine Wp.stepsG 4 (fun cal X P' hk hX hP => ?_)
  show (q1 = 33 → X (21, [some (.ref 40), some (.int 4), some (.int q1), none, none, none], [], st S hs, 0, 0)) ∧ (¬ q1 = 33 → X (15, [some (.ref 40), some (.int 4), some (.int q1), none, none, none], [], st S hs, 0, 0))
  refine ⟨fun hc => hX _ ?_, fun hc => hX _ ?_⟩
  · clear hP hX hk P' X cal
    rw [if_pos hc] at hr
    refine Wp.stepsG 3 (fun cal X P' hk hX hP => ?_)
    show ((4 : Int32) < 4 → X (28, [some (.ref 40), some (.int 4), some (.int q1), none, none, none], [], st S hs, 0, 0)) ∧ (¬ (4 : Int32) < 4 → X (26, [some (.ref 40), some (.int 4), some (.int q1), none, none, none], [], st S hs, 0, 0))
    refine ⟨fun hc => absurd hc (by decide), fun _ => hX _ ?_⟩
    clear hP hX hk P' X cal
    have hr := Option.some.inj hr
    subst hr
    refine Wp.stepsG 2 (fun cal X P' hk hX hP => ?_)
    exact ⟨Or.inl rfl, hP _ _ h⟩
  · clear hP hX hk P' X cal
    rw [if_neg hc] at hr
    refine Wp.stepsG 3 (fun cal X P' hk hX hP => ?_)
    show (¬ q1 = 40 → X (97, [some (.ref 40), some (.int 4), some (.int q1), none, none, none], [], st S hs, 0, 0)) ∧ (q1 = 40 → X (21, [some (.ref 40), some (.int 4), some (.int q1), none, none, none], [], st S hs, 0, 0))
    refine ⟨fun hc => hX _ ?_, fun hc => hX _ ?_⟩
    · clear hP hX hk P' X cal
      rw [if_neg hc] at hr
      refine Wp.stepsG 3 (fun cal X P' hk hX hP => ?_)
      show kcall cal ix_X5_goByOneOf [.ref 40, .ref 1] (st S hs) [] 0 0 (0, 0) (fun v σ' c' m' => X (103, [some (.ref 40), some (.int 4), some (.int q1), none, none, none], v.toList ++ [], σ', c', m'))
      obtain ⟨q2, hq2, hr⟩ := bd_some hr
      refine kcall0 rfl (hk _ _ _ _ _ _ (e_X5_goByOneOf_1_40 (d + 0) S hs q2 hq2 _ ?_))
      show X (103, [some (.ref 40), some (.int 4), some (.int q1), none, none, none], [.int q2.1], st q2.2 hs, 0, 0)
      refine hX _ ?_
      clear hP hX hk P' X cal
      refine Wp.stepsG 3 (fun cal X P' hk hX hP => ?_)
      show (0 ≤ q2.1 → X (112, [some (.ref 40), some (.int 4), some (.int q1), some (.int q2.1), none, none], [], st q2.2 hs, 0, 0)) ∧ (¬ 0 ≤ q2.1 → X (108, [some (.ref 40), some (.int 4), some (.int q1), some (.int q2.1), none, none], [], st q2.2 hs, 0, 0))
      refine ⟨fun hc => hX _ ?_, fun hc => hX _ ?_⟩
      · clear hP hX hk P' X cal
        rw [if_pos hc] at hr
        refine Wp.stepsG 3 (fun cal X P' hk hX hP => ?_)
        show kcall cal ix_X5_goByOneOf [.ref 40, .ref 2] (st q2.2 hs) [] 0 0 (0, 0) (fun v σ' c' m' => X (118, [some (.ref 40), some (.int 4), some (.int q1), some (.int q2.1), none, none], v.toList ++ [], σ', c', m'))
        obtain ⟨q3, hq3, hr⟩ := bd_some hr
        refine kcall0 rfl (hk _ _ _ _ _ _ (e_X5_goByOneOf_2_40 (d + 0) q2.2 hs q3 hq3 _ ?_))
        show X (118, [some (.ref 40), some (.int 4), some (.int q1), some (.int q2.1), none, none], [.int q3.1], st q3.2 hs, 0, 0)
        refine hX _ ?_
        clear hP hX hk P' X cal
        refine Wp.stepsG 3 (fun cal X P' hk hX hP => ?_)
        show (0 ≤ q3.1 → X (129, [some (.ref 40), some (.int 4), some (.int q1), some (.int q2.1), some (.int q3.1), none], [], st q3.2 hs, 0, 0)) ∧ (¬ 0 ≤ q3.1 → X (125, [some (.ref 40), some (.int 4), some (.int q1), some (.int q2.1), some (.int q3.1), none], [], st q3.2 hs, 0, 0))
        refine ⟨fun hc => hX _ ?_, fun hc => hX _ ?_⟩
        · clear hP hX hk P' X cal
          rw [if_pos hc] at hr
          refine Wp.stepsG 2 (fun cal X P' hk hX hP => ?_)
          show kcall cal ix_X5_goByNumber [.ref 40] (st q3.2 hs) [] 0 0 (0, 0) (fun v σ' c' m' => X (133, [some (.ref 40), some (.int 4), some (.int q1), some (.int q2.1), some (.int q3.1), none], v.toList ++ [], σ', c', m'))
          obtain ⟨q4, hq4, hr⟩ := bd_some hr
          refine kcall0 rfl (hk _ _ _ _ _ _ (e_X5_goByNumber_40 (d + 0) q3.2 hs q4 hq4 _ ?_))
          show X (133, [some (.ref 40), some (.int 4), some (.int q1), some (.int q2.1), some (.int q3.1), none], [.int q4.1], st q4.2 hs, 0, 0)
          refine hX _ ?_
          clear hP hX hk P' X cal
          refine Wp.stepsG 3 (fun cal X P' hk hX hP => ?_)
          show (q4.1 < 0 → X (159, [some (.ref 40), some (.int 4), some (.int q1), some (.int q2.1), some (.int q3.1), some (.int q4.1)], [], st q4.2 hs, 0, 0)) ∧ (¬ q4.1 < 0 → X (140, [some (.ref 40), some (.int 4), some (.int q1), some (.int q2.1), some (.int q3.1), some (.int q4.1)], [], st q4.2 hs, 0, 0))
          refine ⟨fun hc => hX _ ?_, fun hc => hX _ ?_⟩
          · clear hP hX hk P' X cal
            rw [if_pos hc] at hr
            have hr := Option.some.inj hr
            subst hr
            refine Wp.stepsG 2 (fun cal X P' hk hX hP => ?_)
            exact ⟨Or.inl rfl, hP _ _ h⟩
          · clear hP hX hk P' X cal
            rw [if_neg hc] at hr
            refine Wp.stepsG 8 (fun cal X P' hk hX hP => ?_)
            show kcall cal ix_X5_add [.ref 40, .int (((3 : Int32) * q2.1) + q3.1), .int q4.1] (st q4.2 hs) [] 0 0 (0, 0) (fun v σ' c' m' => X (152, [some (.ref 40), some (.int 4), some (.int q1), some (.int q2.1), some (.int q3.1), some (.int q4.1)], v.toList ++ [], σ', c', m'))
            obtain ⟨q5, hq5, hr⟩ := bd_some hr
            refine kcall0 rfl (hk _ _ _ _ _ _ (e_X5_add_40 (d + 1) q4.2 hs (((3 : Int32) * q2.1) + q3.1) q4.1 q5 hq5 _ ?_))
            show X (152, [some (.ref 40), some (.int 4), some (.int q1), some (.int q2.1), some (.int q3.1), some (.int q4.1)], [.int q5.1], st q5.2 hs, 0, 0)
            refine hX _ ?_
            clear hP hX hk P' X cal
            refine Wp.stepsG 1 (fun cal X P' hk hX hP => ?_)
            show (q5.1 = 0 → X (159, [some (.ref 40), some (.int 4), some (.int q1), some (.int q2.1), some (.int q3.1), some (.int q4.1)], [], st q5.2 hs, 0, 0)) ∧ (¬ q5.1 = 0 → X (155, [some (.ref 40), some (.int 4), some (.int q1), some (.int q2.1), some (.int q3.1), some (.int q4.1)], [], st q5.2 hs, 0, 0))
            refine ⟨fun hc => hX _ ?_, fun hc => hX _ ?_⟩
            · clear hP hX hk P' X cal
              rw [if_pos hc] at hr
              have hr := Option.some.inj hr
              subst hr
              refine Wp.stepsG 2 (fun cal X P' hk hX hP => ?_)
              exact ⟨Or.inl rfl, hP _ _ h⟩
            · clear hP hX hk P' X cal
              rw [if_neg hc] at hr
              have hr := Option.some.inj hr
              subst hr
              refine Wp.stepsG 3 (fun cal X P' hk hX hP => ?_)
              exact ⟨Or.inr rfl, hP _ _ h⟩
        · clear hP hX hk P' X cal
          rw [if_neg hc] at hr
          refine Wp.stepsG 5 (fun cal X P' hk hX hP => ?_)
          show (((-1) : Int32) < 0 → X (159, [some (.ref 40), some (.int 4), some (.int q1), some (.int q2.1), some (.int q3.1), some (.int (-1))], [], st q3.2 hs, 0, 0)) ∧ (¬ ((-1) : Int32) < 0 → X (140, [some (.ref 40), some (.int 4), some (.int q1), some (.int q2.1), some (.int q3.1), some (.int (-1))], [], st q3.2 hs, 0, 0))
          refine ⟨fun _ => hX _ ?_, fun hc => absurd hc (by decide)⟩
          clear hP hX hk P' X cal
          have hr := Option.some.inj hr
          subst hr
          refine Wp.stepsG 2 (fun cal X P' hk hX hP => ?_)
          exact ⟨Or.inl rfl, hP _ _ h⟩
      · clear hP hX hk P' X cal
        rw [if_neg hc] at hr
        refine Wp.stepsG 5 (fun cal X P' hk hX hP => ?_)
        show (0 ≤ ((-1) : Int32) → X (129, [some (.ref 40), some (.int 4), some (.int q1), some (.int q2.1), some (.int (-1)), none], [], st q2.2 hs, 0, 0)) ∧ (¬ 0 ≤ ((-1) : Int32) → X (125, [some (.ref 40), some (.int 4), some (.int q1), some (.int q2.1), some (.int (-1)), none], [], st q2.2 hs, 0, 0))
        refine ⟨fun hc => absurd hc (by decide), fun _ => hX _ ?_⟩
        clear hP hX hk P' X cal
        refine Wp.stepsG 5 (fun cal X P' hk hX hP => ?_)
        show (((-1) : Int32) < 0 → X (159, [some (.ref 40), some (.int 4), some (.int q1), some (.int q2.1), some (.int (-1)), some (.int (-1))], [], st q2.2 hs, 0, 0)) ∧ (¬ ((-1) : Int32) < 0 → X (140, [some (.ref 40), some (.int 4), some (.int q1), some (.int q2.1), some (.int (-1)), some (.int (-1))], [], st q2.2 hs, 0, 0))
        refine ⟨fun _ => hX _ ?_, fun hc => absurd hc (by decide)⟩
        clear hP hX hk P' X cal
        have hr := Option.some.inj hr
        subst hr
        refine Wp.stepsG 2 (fun cal X P' hk hX hP => ?_)
        exact ⟨Or.inl rfl, hP _ _ h⟩
    · clear hP hX hk P' X cal
      rw [if_pos hc] at hr
      refine Wp.stepsG 3 (fun cal X P' hk hX hP => ?_)
      show ((4 : Int32) < 4 → X (28, [some (.ref 40), some (.int 4), some (.int q1), none, none, none], [], st S hs, 0, 0)) ∧ (¬ (4 : Int32) < 4 → X (26, [some (.ref 40), some (.int 4), some (.int q1), none, none, none], [], st S hs, 0, 0))
      refine ⟨fun hc => absurd hc (by decide), fun _ => hX _ ?_⟩
      clear hP hX hk P' X cal
      have hr := Option.some.inj hr
      subst hr
      refine Wp.stepsG 2 (fun cal X P' hk hX hP => ?_)
      exact ⟨Or.inl rfl, hP _ _ h⟩
def lp_X5_learnBoth_d4_8 (o : Nat) : Nat → Int32 → Int32 → St → Option (Int32 × St)
  | 0, _, _, _ => none
  | n + 1, v2, v3, S =>
    if 100 ≤ v3 then
      some (v2, S)
    else
      if v2 = 0 then
        some (v2, S)
      else
        (r_X5_goBy S o 38).bind fun q2 =>
        if q2.1 = 0 then
          some (v2, q2.2)
        else
          (r_X5_learnPart_d4 q2.2 o).bind fun q3 =>
          if q3.1 = 0 then
            lp_X5_learnBoth_d4_8 o n 0 (v3 + 1) q3.2
          else
            (r_X5_add q3.2 o 19 0).bind fun q4 =>
            if q4.1 = 0 then
              lp_X5_learnBoth_d4_8 o n 0 (v3 + 1) q4.2
            else
              lp_X5_learnBoth_d4_8 o n 1 (v3 + 1) q4.2
def r_X5_learnBoth_d4 (S : St) (o : Nat) : Option (Int32 × St) :=
  (r_X5_learnPart_d4 S o).bind fun q1 =>
  (lp_X5_learnBoth_d4_8 o 4000 q1.1 0 q1.2).bind fun q5 =>
    gd (q5.1 = 0 ∨ q5.1 = 1) (some (q5.1, q5.2))
set_option maxRecDepth 20000 in
set_option maxHeartbeats 4000000 in
theorem e_lp_X5_learnBoth_d4_8_40 (d : Nat) (hs : List Hr) (P : Option Value → Hp → Prop) : ∀ (n : Nat) (v2 : Int32) (v3 : Int32) (S : St) (q : Int32 × St), lp_X5_learnBoth_d4_8 40 n v2 v3 S = some q → (WM mi_X5_learnBoth (d + 3) P 57 [some (.ref 40), some (.int 4), some (.int q.1), none] [] (st q.2 hs)) → WM mi_X5_learnBoth (d + 3) P 8 [some (.ref 40), some (.int 4), some (.int v2), some (.int v3)] [] (st S hs) := by
  intro n
  induction n with
  | zero =>
    intro v2 v3 S q hl
    cases hl
  | succ n ih =>
    intro v2 v3 S q hl ct
    rw [lp_X5_learnBoth_d4_8] at hl
    refine Wp.stepsG 3 (fun cal X P' hk hX hP => ?_)
    show (100 ≤ v3 → X (57, [some (.ref 40), some (.int 4), some (.int v2), some (.int v3)], [], st S hs, 0, 0)) ∧ (¬ 100 ≤ v3 → X (14, [some (.ref 40), some (.int 4), some (.int v2), some (.int v3)], [], st S hs, 0, 0))
    refine ⟨fun hc => hX _ ?_, fun hc => hX _ ?_⟩
    · clear hP hX hk P' X cal
      rw [if_pos hc] at hl
      have hl := Option.some.inj hl
      subst hl
      exact Wp.weak (leL.k (leL.k (leL.k (leL.n leL.z)))) (ct)
    · clear hP hX hk P' X cal
      rw [if_neg hc] at hl
      refine Wp.stepsG 2 (fun cal X P' hk hX hP => ?_)
      show (v2 = 0 → X (57, [some (.ref 40), some (.int 4), some (.int v2), some (.int v3)], [], st S hs, 0, 0)) ∧ (¬ v2 = 0 → X (18, [some (.ref 40), some (.int 4), some (.int v2), some (.int v3)], [], st S hs, 0, 0))
      refine ⟨fun hc => hX _ ?_, fun hc => hX _ ?_⟩
      · clear hP hX hk P' X cal
        rw [if_pos hc] at hl
        have hl := Option.some.inj hl
        subst hl
        exact Wp.weak (leL.k (leL.k (leL.k (leL.n leL.z)))) (ct)
      · clear hP hX hk P' X cal
        rw [if_neg hc] at hl
        refine Wp.stepsG 3 (fun cal X P' hk hX hP => ?_)
        show kcall cal ix_X5_goBy [.ref 40, .int 38] (st S hs) [] 0 0 (0, 0) (fun v σ' c' m' => X (24, [some (.ref 40), some (.int 4), some (.int v2), some (.int v3)], v.toList ++ [], σ', c', m'))
        obtain ⟨q2, hq2, hl⟩ := bd_some hl
        refine kcall0 rfl (hk _ _ _ _ _ _ (e_X5_goBy_40 (d + 1) S hs 38 q2 hq2 _ ?_))
        show X (24, [some (.ref 40), some (.int 4), some (.int v2), some (.int v3)], [.int q2.1], st q2.2 hs, 0, 0)
        refine hX _ ?_
        clear hP hX hk P' X cal
        refine Wp.stepsG 1 (fun cal X P' hk hX hP => ?_)
        show (q2.1 = 0 → X (57, [some (.ref 40), some (.int 4), some (.int v2), some (.int v3)], [], st q2.2 hs, 0, 0)) ∧ (¬ q2.1 = 0 → X (27, [some (.ref 40), some (.int 4), some (.int v2), some (.int v3)], [], st q2.2 hs, 0, 0))
        refine ⟨fun hc => hX _ ?_, fun hc => hX _ ?_⟩
        · clear hP hX hk P' X cal
          rw [if_pos hc] at hl
          have hl := Option.some.inj hl
          subst hl
          exact Wp.weak (leL.k (leL.k (leL.k (leL.n leL.z)))) (ct)
        · clear hP hX hk P' X cal
          rw [if_neg hc] at hl
          refine Wp.stepsG 3 (fun cal X P' hk hX hP => ?_)
          show kcall cal ix_X5_learnPart [.ref 40, .int 4] (st q2.2 hs) [] 0 0 (0, 0) (fun v σ' c' m' => X (32, [some (.ref 40), some (.int 4), some (.int v2), some (.int v3)], v.toList ++ [], σ', c', m'))
          obtain ⟨q3, hq3, hl⟩ := bd_some hl
          refine kcall0 rfl (hk _ _ _ _ _ _ (e_X5_learnPart_d4_40 (d + 0) q2.2 hs q3 hq3 _ ?_))
          show X (32, [some (.ref 40), some (.int 4), some (.int v2), some (.int v3)], [.int q3.1], st q3.2 hs, 0, 0)
          refine hX _ ?_
          clear hP hX hk P' X cal
          refine Wp.stepsG 1 (fun cal X P' hk hX hP => ?_)
          show (q3.1 = 0 → X (49, [some (.ref 40), some (.int 4), some (.int v2), some (.int v3)], [], st q3.2 hs, 0, 0)) ∧ (¬ q3.1 = 0 → X (35, [some (.ref 40), some (.int 4), some (.int v2), some (.int v3)], [], st q3.2 hs, 0, 0))
          refine ⟨fun hc => hX _ ?_, fun hc => hX _ ?_⟩
          · clear hP hX hk P' X cal
            rw [if_pos hc] at hl
            refine Wp.stepsG 4 (fun cal X P' hk hX hP => ?_)
            show X (8, [some (.ref 40), some (.int 4), some (.int 0), some (.int (v3 + 1))], [], st q3.2 hs, 0, 0)
            refine hX _ ?_
            exact (ih 0 (v3 + 1) q3.2 q hl ct)
          · clear hP hX hk P' X cal
            rw [if_neg hc] at hl
            refine Wp.stepsG 4 (fun cal X P' hk hX hP => ?_)
            show kcall cal ix_X5_add [.ref 40, .int 19, .int 0] (st q3.2 hs) [] 0 0 (0, 0) (fun v σ' c' m' => X (42, [some (.ref 40), some (.int 4), some (.int v2), some (.int v3)], v.toList ++ [], σ', c', m'))
            obtain ⟨q4, hq4, hl⟩ := bd_some hl
            refine kcall0 rfl (hk _ _ _ _ _ _ (e_X5_add_40 (d + 2) q3.2 hs 19 0 q4 hq4 _ ?_))
            show X (42, [some (.ref 40), some (.int 4), some (.int v2), some (.int v3)], [.int q4.1], st q4.2 hs, 0, 0)
            refine hX _ ?_
            clear hP hX hk P' X cal
            refine Wp.stepsG 1 (fun cal X P' hk hX hP => ?_)
            show (q4.1 = 0 → X (49, [some (.ref 40), some (.int 4), some (.int v2), some (.int v3)], [], st q4.2 hs, 0, 0)) ∧ (¬ q4.1 = 0 → X (45, [some (.ref 40), some (.int 4), some (.int v2), some (.int v3)], [], st q4.2 hs, 0, 0))
            refine ⟨fun hc => hX _ ?_, fun hc => hX _ ?_⟩
            · clear hP hX hk P' X cal
              rw [if_pos hc] at hl
              refine Wp.stepsG 4 (fun cal X P' hk hX hP => ?_)
              show X (8, [some (.ref 40), some (.int 4), some (.int 0), some (.int (v3 + 1))], [], st q4.2 hs, 0, 0)
              refine hX _ ?_
              exact (ih 0 (v3 + 1) q4.2 q hl ct)
            · clear hP hX hk P' X cal
              rw [if_neg hc] at hl
              refine Wp.stepsG 5 (fun cal X P' hk hX hP => ?_)
              show X (8, [some (.ref 40), some (.int 4), some (.int 1), some (.int (v3 + 1))], [], st q4.2 hs, 0, 0)
              refine hX _ ?_
              exact (ih 1 (v3 + 1) q4.2 q hl ct)
set_option maxRecDepth 20000 in
set_option maxHeartbeats 4000000 in
theorem e_X5_learnBoth_d4_40 (d : Nat) (S : St) (hs : List Hr) (v : Int32 × St) (hr : r_X5_learnBoth_d4 S 40 = some v) (P : Option Value → Hp → Prop) (h : P (some (.int v.1)) (st v.2 hs)) : Ev (d + 4) ix_X5_learnBoth 0 0 [.ref 40, .int 4] (st S hs) P := by
  refine Ev.intro (M := mi_X5_learnBoth) rfl (Nat.le_of_ble_eq_true rfl) ?_
  unfold r_X5_learnBoth_d4 at hr
  refine Wp.stepsG 3 (fun cal X P' hk hX hP => ?_)
  show kcall cal ix_X5_learnPart [.ref 40, .int 4] (st S hs) [] 0 0 (0, 0) (fun v σ' c' m' => X (5, [some (.ref 40), some (.int 4), none, none], v.toList ++ [], σ', c', m'))
  obtain ⟨q1, hq1, hr⟩ := bd_some hr
  refine kcall0 rfl (hk _ _ _ _ _ _ (e_X5_learnPart_d4_40 (d + 0) S hs q1 hq1 _ ?_))
  show X (5, [some (.ref 40), some (.int 4), none, none], [.int q1.1], st q1.2 hs, 0, 0)
  refine hX _ ?_
  clear hP hX hk P' X cal
  refine Wp.stepsG 3 (fun cal X P' hk hX hP => ?_)
  show X (8, [some (.ref 40), some (.int 4), some (.int q1.1), some (.int 0)], [], st q1.2 hs, 0, 0)
  refine hX _ ?_
  clear hP hX hk P' X cal
  obtain ⟨q5, hq5, hr⟩ := bd_some hr
  refine (e_lp_X5_learnBoth_d4_8_40 d hs P _ q1.1 0 q1.2 q5 hq5 ?_)
  obtain ⟨hb, hr⟩ := gd_some hr
  have hr := Option.some.inj hr
  subst hr
  refine Wp.stepsG 2 (fun cal X P' hk hX hP => ?_)
  exact ⟨hb, hP _ _ h⟩
def lp_X5_learnEither_d4_8 (o : Nat) : Nat → Int32 → Int32 → St → Option (Int32 × St)
  | 0, _, _, _ => none
  | n + 1, v2, v3, S =>
    if 100 ≤ v3 then
      some (v2, S)
    else
      if v2 = 0 then
        some (v2, S)
      else
        (r_X5_goBy S o 124).bind fun q2 =>
        if q2.1 = 0 then
          some (v2, q2.2)
        else
          (r_X5_learnBoth_d4 q2.2 o).bind fun q3 =>
          if q3.1 = 0 then
            lp_X5_learnEither_d4_8 o n 0 (v3 + 1) q3.2
          else
            (r_X5_add q3.2 o 20 0).bind fun q4 =>
            if q4.1 = 0 then
              lp_X5_learnEither_d4_8 o n 0 (v3 + 1) q4.2
            else
              lp_X5_learnEither_d4_8 o n 1 (v3 + 1) q4.2
def r_X5_learnEither_d4 (S : St) (o : Nat) : Option (Int32 × St) :=
  (r_X5_learnBoth_d4 S o).bind fun q1 =>
  (lp_X5_learnEither_d4_8 o 4000 q1.1 0 q1.2).bind fun q5 =>
    gd (q5.1 = 0 ∨ q5.1 = 1) (some (q5.1, q5.2))
set_option maxRecDepth 20000 in
set_option maxHeartbeats 4000000 in
theorem e_lp_X5_learnEither_d4_8_40 (d : Nat) (hs : List Hr) (P : Option Value → Hp → Prop) : ∀ (n : Nat) (v2 : Int32) (v3 : Int32) (S : St) (q : Int32 × St), lp_X5_learnEither_d4_8 40 n v2 v3 S = some q → (WM mi_X5_learnEither (d + 4) P 57 [some (.ref 40), some (.int 4), some (.int q.1), none] [] (st q.2 hs)) → WM mi_X5_learnEither (d + 4) P 8 [some (.ref 40), some (.int 4), some (.int v2), some (.int v3)] [] (st S hs) := by
  intro n
  induction n with
  | zero =>
    intro v2 v3 S q hl
    cases hl
  | succ n ih =>
    intro v2 v3 S q hl ct
    rw [lp_X5_learnEither_d4_8] at hl
    refine Wp.stepsG 3 (fun cal X P' hk hX hP => ?_)
    show (100 ≤ v3 → X (57, [some (.ref 40), some (.int 4), some (.int v2), some (.int v3)], [], st S hs, 0, 0)) ∧ (¬ 100 ≤ v3 → X (14, [some (.ref 40), some (.int 4), some (.int v2), some (.int v3)], [], st S hs, 0, 0))
    refine ⟨fun hc => hX _ ?_, fun hc => hX _ ?_⟩
    · clear hP hX hk P' X cal
      rw [if_pos hc] at hl
      have hl := Option.some.inj hl
      subst hl
      exact Wp.weak (leL.k (leL.k (leL.k (leL.n leL.z)))) (ct)
    · clear hP hX hk P' X cal
      rw [if_neg hc] at hl
      refine Wp.stepsG 2 (fun cal X P' hk hX hP => ?_)
      show (v2 = 0 → X (57, [some (.ref 40), some (.int 4), some (.int v2), some (.int v3)], [], st S hs, 0, 0)) ∧ (¬ v2 = 0 → X (18, [some (.ref 40), some (.int 4), some (.int v2), some (.int v3)], [], st S hs, 0, 0))
      refine ⟨fun hc => hX _ ?_, fun hc => hX _ ?_⟩
      · clear hP hX hk P' X cal
        rw [if_pos hc] at hl
        have hl := Option.some.inj hl
        subst hl
        exact Wp.weak (leL.k (leL.k (leL.k (leL.n leL.z)))) (ct)
      · clear hP hX hk P' X cal
        rw [if_neg hc] at hl
        refine Wp.stepsG 3 (fun cal X P' hk hX hP => ?_)
        show kcall cal ix_X5_goBy [.ref 40, .int 124] (st S hs) [] 0 0 (0, 0) (fun v σ' c' m' => X (24, [some (.ref 40), some (.int 4), some (.int v2), some (.int v3)], v.toList ++ [], σ', c', m'))
        obtain ⟨q2, hq2, hl⟩ := bd_some hl
        refine kcall0 rfl (hk _ _ _ _ _ _ (e_X5_goBy_40 (d + 2) S hs 124 q2 hq2 _ ?_))
        show X (24, [some (.ref 40), some (.int 4), some (.int v2), some (.int v3)], [.int q2.1], st q2.2 hs, 0, 0)
        refine hX _ ?_
        clear hP hX hk P' X cal
        refine Wp.stepsG 1 (fun cal X P' hk hX hP => ?_)
        show (q2.1 = 0 → X (57, [some (.ref 40), some (.int 4), some (.int v2), some (.int v3)], [], st q2.2 hs, 0, 0)) ∧ (¬ q2.1 = 0 → X (27, [some (.ref 40), some (.int 4), some (.int v2), some (.int v3)], [], st q2.2 hs, 0, 0))
        refine ⟨fun hc => hX _ ?_, fun hc => hX _ ?_⟩
        · clear hP hX hk P' X cal
          rw [if_pos hc] at hl
          have hl := Option.some.inj hl
          subst hl
          exact Wp.weak (leL.k (leL.k (leL.k (leL.n leL.z)))) (ct)
        · clear hP hX hk P' X cal
          rw [if_neg hc] at hl
          refine Wp.stepsG 3 (fun cal X P' hk hX hP => ?_)
          show kcall cal ix_X5_learnBoth [.ref 40, .int 4] (st q2.2 hs) [] 0 0 (0, 0) (fun v σ' c' m' => X (32, [some (.ref 40), some (.int 4), some (.int v2), some (.int v3)], v.toList ++ [], σ', c', m'))
          obtain ⟨q3, hq3, hl⟩ := bd_some hl
          refine kcall0 rfl (hk _ _ _ _ _ _ (e_X5_learnBoth_d4_40 (d + 0) q2.2 hs q3 hq3 _ ?_))
          show X (32, [some (.ref 40), some (.int 4), some (.int v2), some (.int v3)], [.int q3.1], st q3.2 hs, 0, 0)
          refine hX _ ?_
          clear hP hX hk P' X cal
          refine Wp.stepsG 1 (fun cal X P' hk hX hP => ?_)
          show (q3.1 = 0 → X (49, [some (.ref 40), some (.int 4), some (.int v2), some (.int v3)], [], st q3.2 hs, 0, 0)) ∧ (¬ q3.1 = 0 → X (35, [some (.ref 40), some (.int 4), some (.int v2), some (.int v3)], [], st q3.2 hs, 0, 0))
          refine ⟨fun hc => hX _ ?_, fun hc => hX _ ?_⟩
          · clear hP hX hk P' X cal
            rw [if_pos hc] at hl
            refine Wp.stepsG 4 (fun cal X P' hk hX hP => ?_)
            show X (8, [some (.ref 40), some (.int 4), some (.int 0), some (.int (v3 + 1))], [], st q3.2 hs, 0, 0)
            refine hX _ ?_
            exact (ih 0 (v3 + 1) q3.2 q hl ct)
          · clear hP hX hk P' X cal
            rw [if_neg hc] at hl
            refine Wp.stepsG 4 (fun cal X P' hk hX hP => ?_)
            show kcall cal ix_X5_add [.ref 40, .int 20, .int 0] (st q3.2 hs) [] 0 0 (0, 0) (fun v σ' c' m' => X (42, [some (.ref 40), some (.int 4), some (.int v2), some (.int v3)], v.toList ++ [], σ', c', m'))
            obtain ⟨q4, hq4, hl⟩ := bd_some hl
            refine kcall0 rfl (hk _ _ _ _ _ _ (e_X5_add_40 (d + 3) q3.2 hs 20 0 q4 hq4 _ ?_))
            show X (42, [some (.ref 40), some (.int 4), some (.int v2), some (.int v3)], [.int q4.1], st q4.2 hs, 0, 0)
            refine hX _ ?_
            clear hP hX hk P' X cal
            refine Wp.stepsG 1 (fun cal X P' hk hX hP => ?_)
            show (q4.1 = 0 → X (49, [some (.ref 40), some (.int 4), some (.int v2), some (.int v3)], [], st q4.2 hs, 0, 0)) ∧ (¬ q4.1 = 0 → X (45, [some (.ref 40), some (.int 4), some (.int v2), some (.int v3)], [], st q4.2 hs, 0, 0))
            refine ⟨fun hc => hX _ ?_, fun hc => hX _ ?_⟩
            · clear hP hX hk P' X cal
              rw [if_pos hc] at hl
              refine Wp.stepsG 4 (fun cal X P' hk hX hP => ?_)
              show X (8, [some (.ref 40), some (.int 4), some (.int 0), some (.int (v3 + 1))], [], st q4.2 hs, 0, 0)
              refine hX _ ?_
              exact (ih 0 (v3 + 1) q4.2 q hl ct)
            · clear hP hX hk P' X cal
              rw [if_neg hc] at hl
              refine Wp.stepsG 5 (fun cal X P' hk hX hP => ?_)
              show X (8, [some (.ref 40), some (.int 4), some (.int 1), some (.int (v3 + 1))], [], st q4.2 hs, 0, 0)
              refine hX _ ?_
              exact (ih 1 (v3 + 1) q4.2 q hl ct)
set_option maxRecDepth 20000 in
set_option maxHeartbeats 4000000 in
theorem e_X5_learnEither_d4_40 (d : Nat) (S : St) (hs : List Hr) (v : Int32 × St) (hr : r_X5_learnEither_d4 S 40 = some v) (P : Option Value → Hp → Prop) (h : P (some (.int v.1)) (st v.2 hs)) : Ev (d + 5) ix_X5_learnEither 0 0 [.ref 40, .int 4] (st S hs) P := by
  refine Ev.intro (M := mi_X5_learnEither) rfl (Nat.le_of_ble_eq_true rfl) ?_
  unfold r_X5_learnEither_d4 at hr
  refine Wp.stepsG 3 (fun cal X P' hk hX hP => ?_)
  show kcall cal ix_X5_learnBoth [.ref 40, .int 4] (st S hs) [] 0 0 (0, 0) (fun v σ' c' m' => X (5, [some (.ref 40), some (.int 4), none, none], v.toList ++ [], σ', c', m'))
  obtain ⟨q1, hq1, hr⟩ := bd_some hr
  refine kcall0 rfl (hk _ _ _ _ _ _ (e_X5_learnBoth_d4_40 (d + 0) S hs q1 hq1 _ ?_))
  show X (5, [some (.ref 40), some (.int 4), none, none], [.int q1.1], st q1.2 hs, 0, 0)
  refine hX _ ?_
  clear hP hX hk P' X cal
  refine Wp.stepsG 3 (fun cal X P' hk hX hP => ?_)
  show X (8, [some (.ref 40), some (.int 4), some (.int q1.1), some (.int 0)], [], st q1.2 hs, 0, 0)
  refine hX _ ?_
  clear hP hX hk P' X cal
  obtain ⟨q5, hq5, hr⟩ := bd_some hr
  refine (e_lp_X5_learnEither_d4_8_40 d hs P _ q1.1 0 q1.2 q5 hq5 ?_)
  obtain ⟨hb, hr⟩ := gd_some hr
  have hr := Option.some.inj hr
  subst hr
  refine Wp.stepsG 2 (fun cal X P' hk hX hP => ?_)
  exact ⟨hb, hP _ _ h⟩
def r_X5_learnPart_d3 (S : St) (o : Nat) : Option (Int32 × St) :=
  (r_X5_signAt S o (S.1 o 7)).bind fun q1 =>
  if q1 = 33 then
    if q1 = 33 then
      (r_X5_learnPart_d4 (sI S o 7 ((S.1 o 7) + 1)) o).bind fun q4 =>
      if q4.1 = 0 then
        some (0, q4.2)
      else
        (r_X5_add q4.2 o 18 0).bind fun q5 =>
        if q5.1 = 0 then
          some (0, q5.2)
        else
          some (1, q5.2)
    else
      (r_X5_learnEither_d4 (sI S o 7 ((S.1 o 7) + 1)) o).bind fun q2 =>
      if q2.1 = 0 then
        some (0, q2.2)
      else
        (r_X5_goBy q2.2 o 41).bind fun q3 =>
        if q3.1 = 0 then
          some (0, q3.2)
        else
          some (1, q3.2)
  else
    if q1 = 40 then
      if q1 = 33 then
        (r_X5_learnPart_d4 (sI S o 7 ((S.1 o 7) + 1)) o).bind fun q12 =>
        if q12.1 = 0 then
          some (0, q12.2)
        else
          (r_X5_add q12.2 o 18 0).bind fun q13 =>
          if q13.1 = 0 then
            some (0, q13.2)
          else
            some (1, q13.2)
      else
        (r_X5_learnEither_d4 (sI S o 7 ((S.1 o 7) + 1)) o).bind fun q10 =>
        if q10.1 = 0 then
          some (0, q10.2)
        else
          (r_X5_goBy q10.2 o 41).bind fun q11 =>
          if q11.1 = 0 then
            some (0, q11.2)
          else
            some (1, q11.2)
    else
      (r_X5_goByOneOf_1 S o).bind fun q6 =>
      if 0 ≤ q6.1 then
        (r_X5_goByOneOf_2 q6.2 o).bind fun q7 =>
        if 0 ≤ q7.1 then
          (r_X5_goByNumber q7.2 o).bind fun q8 =>
          if q8.1 < 0 then
            some (0, q8.2)
          else
            (r_X5_add q8.2 o (((3 : Int32) * q6.1) + q7.1) q8.1).bind fun q9 =>
            if q9.1 = 0 then
              some (0, q9.2)
            else
              some (1, q9.2)
        else
          some (0, q7.2)
      else
        some (0, q6.2)
set_option maxRecDepth 20000 in
set_option maxHeartbeats 4000000 in
theorem e_X5_learnPart_d3_40 (d : Nat) (S : St) (hs : List Hr) (v : Int32 × St) (hr : r_X5_learnPart_d3 S 40 = some v) (P : Option Value → Hp → Prop) (h : P (some (.int v.1)) (st v.2 hs)) : Ev (d + 6) ix_X5_learnPart 0 0 [.ref 40, .int 3] (st S hs) P := by
  refine Ev.intro (M := mi_X5_learnPart) rfl (Nat.le_of_ble_eq_true rfl) ?_
  unfold r_X5_learnPart_d3 at hr
  refine Wp.stepsG 4 (fun cal X P' hk hX hP => ?_)
  show kcall cal ix_X5_signAt [.ref 40, .int (S.1 40 7)] (st S hs) [] 0 0 (0, 0) (fun v σ' c' m' => X (8, [some (.ref 40), some (.int 3), none, none, none, none], v.toList ++ [], σ', c', m'))
  obtain ⟨q1, hq1, hr⟩ := bd_some hr
  refine kcall0 rfl (hk _ _ _ _ _ _ (e_X5_signAt_40 (d + 4) S hs (S.1 40 7) q1 hq1 _ ?_))
  show X (8, [some (.ref 40), some (.int 3), none, none, none, none], [.int q1], st S hs, 0, 0)
  refine hX _ ?_
  clear hP hX hk P' X cal
  refine Wp.stepsG 4 (fun cal X P' hk hX hP => ?_)
  show (q1 = 33 → X (21, [some (.ref 40), some (.int 3), some (.int q1), none, none, none], [], st S hs, 0, 0)) ∧ (¬ q1 = 33 → X (15, [some (.ref 40), some (.int 3), some (.int q1), none, none, none], [], st S hs, 0, 0))
  refine ⟨fun hc => hX _ ?_, fun hc => hX _ ?_⟩
  · clear hP hX hk P' X cal
    rw [if_pos hc] at hr
    refine Wp.stepsG 3 (fun cal X P' hk hX hP => ?_)
    show ((3 : Int32) < 4 → X (28, [some (.ref 40), some (.int 3), some (.int q1), none, none, none], [], st S hs, 0, 0)) ∧ (¬ (3 : Int32) < 4 → X (26, [some (.ref 40), some (.int 3), some (.int q1), none, none, none], [], st S hs, 0, 0))
    refine ⟨fun _ => hX _ ?_, fun hc => absurd hc (by decide)⟩
    clear hP hX hk P' X cal
    refine Wp.stepsG 9 (fun cal X P' hk hX hP => ?_)
    show (¬ q1 = 33 → X (72, [some (.ref 40), some (.int 3), some (.int q1), none, none, none], [], st (sI S 40 7 ((S.1 40 7) + 1)) hs, 0, 0)) ∧ (q1 = 33 → X (44, [some (.ref 40), some (.int 3), some (.int q1), none, none, none], [], st (sI S 40 7 ((S.1 40 7) + 1)) hs, 0, 0))
    refine ⟨fun hc => hX _ ?_, fun hc => hX _ ?_⟩
    · clear hP hX hk P' X cal
      rw [if_neg hc] at hr
      refine Wp.stepsG 5 (fun cal X P' hk hX hP => ?_)
      show kcall cal ix_X5_learnEither [.ref 40, .int 4] (st (sI S 40 7 ((S.1 40 7) + 1)) hs) [] 0 0 (0, 0) (fun v σ' c' m' => X (79, [some (.ref 40), some (.int 3), some (.int q1), none, none, none], v.toList ++ [], σ', c', m'))
      obtain ⟨q2, hq2, hr⟩ := bd_some hr
      refine kcall0 rfl (hk _ _ _ _ _ _ (e_X5_learnEither_d4_40 (d + 0) (sI S 40 7 ((S.1 40 7) + 1)) hs q2 hq2 _ ?_))
      show X (79, [some (.ref 40), some (.int 3), some (.int q1), none, none, none], [.int q2.1], st q2.2 hs, 0, 0)
      refine hX _ ?_
      clear hP hX hk P' X cal
      refine Wp.stepsG 1 (fun cal X P' hk hX hP => ?_)
      show (q2.1 = 0 → X (95, [some (.ref 40), some (.int 3), some (.int q1), none, none, none], [], st q2.2 hs, 0, 0)) ∧ (¬ q2.1 = 0 → X (82, [some (.ref 40), some (.int 3), some (.int q1), none, none, none], [], st q2.2 hs, 0, 0))
      refine ⟨fun hc => hX _ ?_, fun hc => hX _ ?_⟩
      · clear hP hX hk P' X cal
        rw [if_pos hc] at hr
        have hr := Option.some.inj hr
        subst hr
        refine Wp.stepsG 2 (fun cal X P' hk hX hP => ?_)
        exact ⟨Or.inl rfl, hP _ _ h⟩
      · clear hP hX hk P' X cal
        rw [if_neg hc] at hr
        refine Wp.stepsG 3 (fun cal X P' hk hX hP => ?_)
        show kcall cal ix_X5_goBy [.ref 40, .int 41] (st q2.2 hs) [] 0 0 (0, 0) (fun v σ' c' m' => X (88, [some (.ref 40), some (.int 3), some (.int q1), none, none, none], v.toList ++ [], σ', c', m'))
        obtain ⟨q3, hq3, hr⟩ := bd_some hr
        refine kcall0 rfl (hk _ _ _ _ _ _ (e_X5_goBy_40 (d + 3) q2.2 hs 41 q3 hq3 _ ?_))
        show X (88, [some (.ref 40), some (.int 3), some (.int q1), none, none, none], [.int q3.1], st q3.2 hs, 0, 0)
        refine hX _ ?_
        clear hP hX hk P' X cal
        refine Wp.stepsG 1 (fun cal X P' hk hX hP => ?_)
        show (q3.1 = 0 → X (95, [some (.ref 40), some (.int 3), some (.int q1), none, none, none], [], st q3.2 hs, 0, 0)) ∧ (¬ q3.1 = 0 → X (91, [some (.ref 40), some (.int 3), some (.int q1), none, none, none], [], st q3.2 hs, 0, 0))
        refine ⟨fun hc => hX _ ?_, fun hc => hX _ ?_⟩
        · clear hP hX hk P' X cal
          rw [if_pos hc] at hr
          have hr := Option.some.inj hr
          subst hr
          refine Wp.stepsG 2 (fun cal X P' hk hX hP => ?_)
          exact ⟨Or.inl rfl, hP _ _ h⟩
        · clear hP hX hk P' X cal
          rw [if_neg hc] at hr
          have hr := Option.some.inj hr
          subst hr
          refine Wp.stepsG 3 (fun cal X P' hk hX hP => ?_)
          exact ⟨Or.inr rfl, hP _ _ h⟩
    · clear hP hX hk P' X cal
      rw [if_pos hc] at hr
      refine Wp.stepsG 5 (fun cal X P' hk hX hP => ?_)
      show kcall cal ix_X5_learnPart [.ref 40, .int 4] (st (sI S 40 7 ((S.1 40 7) + 1)) hs) [] 0 0 (0, 0) (fun v σ' c' m' => X (51, [some (.ref 40), some (.int 3), some (.int q1), none, none, none], v.toList ++ [], σ', c', m'))
      obtain ⟨q4, hq4, hr⟩ := bd_some hr
      refine kcall0 rfl (hk _ _ _ _ _ _ (e_X5_learnPart_d4_40 (d + 2) (sI S 40 7 ((S.1 40 7) + 1)) hs q4 hq4 _ ?_))
      show X (51, [some (.ref 40), some (.int 3), some (.int q1), none, none, none], [.int q4.1], st q4.2 hs, 0, 0)
      refine hX _ ?_
      clear hP hX hk P' X cal
      refine Wp.stepsG 1 (fun cal X P' hk hX hP => ?_)
      show (q4.1 = 0 → X (68, [some (.ref 40), some (.int 3), some (.int q1), none, none, none], [], st q4.2 hs, 0, 0)) ∧ (¬ q4.1 = 0 → X (54, [some (.ref 40), some (.int 3), some (.int q1), none, none, none], [], st q4.2 hs, 0, 0))
      refine ⟨fun hc => hX _ ?_, fun hc => hX _ ?_⟩
      · clear hP hX hk P' X cal
        rw [if_pos hc] at hr
        have hr := Option.some.inj hr
        subst hr
        refine Wp.stepsG 3 (fun cal X P' hk hX hP => ?_)
        exact ⟨Or.inl rfl, hP _ _ h⟩
      · clear hP hX hk P' X cal
        rw [if_neg hc] at hr
        refine Wp.stepsG 4 (fun cal X P' hk hX hP => ?_)
        show kcall cal ix_X5_add [.ref 40, .int 18, .int 0] (st q4.2 hs) [] 0 0 (0, 0) (fun v σ' c' m' => X (61, [some (.ref 40), some (.int 3), some (.int q1), none, none, none], v.toList ++ [], σ', c', m'))
        obtain ⟨q5, hq5, hr⟩ := bd_some hr
        refine kcall0 rfl (hk _ _ _ _ _ _ (e_X5_add_40 (d + 4) q4.2 hs 18 0 q5 hq5 _ ?_))
        show X (61, [some (.ref 40), some (.int 3), some (.int q1), none, none, none], [.int q5.1], st q5.2 hs, 0, 0)
        refine hX _ ?_
        clear hP hX hk P' X cal
        refine Wp.stepsG 1 (fun cal X P' hk hX hP => ?_)
        show (q5.1 = 0 → X (68, [some (.ref 40), some (.int 3), some (.int q1), none, none, none], [], st q5.2 hs, 0, 0)) ∧ (¬ q5.1 = 0 → X (64, [some (.ref 40), some (.int 3), some (.int q1), none, none, none], [], st q5.2 hs, 0, 0))
        refine ⟨fun hc => hX _ ?_, fun hc => hX _ ?_⟩
        · clear hP hX hk P' X cal
          rw [if_pos hc] at hr
          have hr := Option.some.inj hr
          subst hr
          refine Wp.stepsG 3 (fun cal X P' hk hX hP => ?_)
          exact ⟨Or.inl rfl, hP _ _ h⟩
        · clear hP hX hk P' X cal
          rw [if_neg hc] at hr
          have hr := Option.some.inj hr
          subst hr
          refine Wp.stepsG 3 (fun cal X P' hk hX hP => ?_)
          exact ⟨Or.inr rfl, hP _ _ h⟩
  · clear hP hX hk P' X cal
    rw [if_neg hc] at hr
    refine Wp.stepsG 3 (fun cal X P' hk hX hP => ?_)
    show (¬ q1 = 40 → X (97, [some (.ref 40), some (.int 3), some (.int q1), none, none, none], [], st S hs, 0, 0)) ∧ (q1 = 40 → X (21, [some (.ref 40), some (.int 3), some (.int q1), none, none, none], [], st S hs, 0, 0))
    refine ⟨fun hc => hX _ ?_, fun hc => hX _ ?_⟩
    · clear hP hX hk P' X cal
      rw [if_neg hc] at hr
      refine Wp.stepsG 3 (fun cal X P' hk hX hP => ?_)
      show kcall cal ix_X5_goByOneOf [.ref 40, .ref 1] (st S hs) [] 0 0 (0, 0) (fun v σ' c' m' => X (103, [some (.ref 40), some (.int 3), some (.int q1), none, none, none], v.toList ++ [], σ', c', m'))
      obtain ⟨q6, hq6, hr⟩ := bd_some hr
      refine kcall0 rfl (hk _ _ _ _ _ _ (e_X5_goByOneOf_1_40 (d + 3) S hs q6 hq6 _ ?_))
      show X (103, [some (.ref 40), some (.int 3), some (.int q1), none, none, none], [.int q6.1], st q6.2 hs, 0, 0)
      refine hX _ ?_
      clear hP hX hk P' X cal
      refine Wp.stepsG 3 (fun cal X P' hk hX hP => ?_)
      show (0 ≤ q6.1 → X (112, [some (.ref 40), some (.int 3), some (.int q1), some (.int q6.1), none, none], [], st q6.2 hs, 0, 0)) ∧ (¬ 0 ≤ q6.1 → X (108, [some (.ref 40), some (.int 3), some (.int q1), some (.int q6.1), none, none], [], st q6.2 hs, 0, 0))
      refine ⟨fun hc => hX _ ?_, fun hc => hX _ ?_⟩
      · clear hP hX hk P' X cal
        rw [if_pos hc] at hr
        refine Wp.stepsG 3 (fun cal X P' hk hX hP => ?_)
        show kcall cal ix_X5_goByOneOf [.ref 40, .ref 2] (st q6.2 hs) [] 0 0 (0, 0) (fun v σ' c' m' => X (118, [some (.ref 40), some (.int 3), some (.int q1), some (.int q6.1), none, none], v.toList ++ [], σ', c', m'))
        obtain ⟨q7, hq7, hr⟩ := bd_some hr
        refine kcall0 rfl (hk _ _ _ _ _ _ (e_X5_goByOneOf_2_40 (d + 3) q6.2 hs q7 hq7 _ ?_))
        show X (118, [some (.ref 40), some (.int 3), some (.int q1), some (.int q6.1), none, none], [.int q7.1], st q7.2 hs, 0, 0)
        refine hX _ ?_
        clear hP hX hk P' X cal
        refine Wp.stepsG 3 (fun cal X P' hk hX hP => ?_)
        show (0 ≤ q7.1 → X (129, [some (.ref 40), some (.int 3), some (.int q1), some (.int q6.1), some (.int q7.1), none], [], st q7.2 hs, 0, 0)) ∧ (¬ 0 ≤ q7.1 → X (125, [some (.ref 40), some (.int 3), some (.int q1), some (.int q6.1), some (.int q7.1), none], [], st q7.2 hs, 0, 0))
        refine ⟨fun hc => hX _ ?_, fun hc => hX _ ?_⟩
        · clear hP hX hk P' X cal
          rw [if_pos hc] at hr
          refine Wp.stepsG 2 (fun cal X P' hk hX hP => ?_)
          show kcall cal ix_X5_goByNumber [.ref 40] (st q7.2 hs) [] 0 0 (0, 0) (fun v σ' c' m' => X (133, [some (.ref 40), some (.int 3), some (.int q1), some (.int q6.1), some (.int q7.1), none], v.toList ++ [], σ', c', m'))
          obtain ⟨q8, hq8, hr⟩ := bd_some hr
          refine kcall0 rfl (hk _ _ _ _ _ _ (e_X5_goByNumber_40 (d + 3) q7.2 hs q8 hq8 _ ?_))
          show X (133, [some (.ref 40), some (.int 3), some (.int q1), some (.int q6.1), some (.int q7.1), none], [.int q8.1], st q8.2 hs, 0, 0)
          refine hX _ ?_
          clear hP hX hk P' X cal
          refine Wp.stepsG 3 (fun cal X P' hk hX hP => ?_)
          show (q8.1 < 0 → X (159, [some (.ref 40), some (.int 3), some (.int q1), some (.int q6.1), some (.int q7.1), some (.int q8.1)], [], st q8.2 hs, 0, 0)) ∧ (¬ q8.1 < 0 → X (140, [some (.ref 40), some (.int 3), some (.int q1), some (.int q6.1), some (.int q7.1), some (.int q8.1)], [], st q8.2 hs, 0, 0))
          refine ⟨fun hc => hX _ ?_, fun hc => hX _ ?_⟩
          · clear hP hX hk P' X cal
            rw [if_pos hc] at hr
            have hr := Option.some.inj hr
            subst hr
            refine Wp.stepsG 2 (fun cal X P' hk hX hP => ?_)
            exact ⟨Or.inl rfl, hP _ _ h⟩
          · clear hP hX hk P' X cal
            rw [if_neg hc] at hr
            refine Wp.stepsG 8 (fun cal X P' hk hX hP => ?_)
            show kcall cal ix_X5_add [.ref 40, .int (((3 : Int32) * q6.1) + q7.1), .int q8.1] (st q8.2 hs) [] 0 0 (0, 0) (fun v σ' c' m' => X (152, [some (.ref 40), some (.int 3), some (.int q1), some (.int q6.1), some (.int q7.1), some (.int q8.1)], v.toList ++ [], σ', c', m'))
            obtain ⟨q9, hq9, hr⟩ := bd_some hr
            refine kcall0 rfl (hk _ _ _ _ _ _ (e_X5_add_40 (d + 4) q8.2 hs (((3 : Int32) * q6.1) + q7.1) q8.1 q9 hq9 _ ?_))
            show X (152, [some (.ref 40), some (.int 3), some (.int q1), some (.int q6.1), some (.int q7.1), some (.int q8.1)], [.int q9.1], st q9.2 hs, 0, 0)
            refine hX _ ?_
            clear hP hX hk P' X cal
            refine Wp.stepsG 1 (fun cal X P' hk hX hP => ?_)
            show (q9.1 = 0 → X (159, [some (.ref 40), some (.int 3), some (.int q1), some (.int q6.1), some (.int q7.1), some (.int q8.1)], [], st q9.2 hs, 0, 0)) ∧ (¬ q9.1 = 0 → X (155, [some (.ref 40), some (.int 3), some (.int q1), some (.int q6.1), some (.int q7.1), some (.int q8.1)], [], st q9.2 hs, 0, 0))
            refine ⟨fun hc => hX _ ?_, fun hc => hX _ ?_⟩
            · clear hP hX hk P' X cal
              rw [if_pos hc] at hr
              have hr := Option.some.inj hr
              subst hr
              refine Wp.stepsG 2 (fun cal X P' hk hX hP => ?_)
              exact ⟨Or.inl rfl, hP _ _ h⟩
            · clear hP hX hk P' X cal
              rw [if_neg hc] at hr
              have hr := Option.some.inj hr
              subst hr
              refine Wp.stepsG 3 (fun cal X P' hk hX hP => ?_)
              exact ⟨Or.inr rfl, hP _ _ h⟩
        · clear hP hX hk P' X cal
          rw [if_neg hc] at hr
          refine Wp.stepsG 5 (fun cal X P' hk hX hP => ?_)
          show (((-1) : Int32) < 0 → X (159, [some (.ref 40), some (.int 3), some (.int q1), some (.int q6.1), some (.int q7.1), some (.int (-1))], [], st q7.2 hs, 0, 0)) ∧ (¬ ((-1) : Int32) < 0 → X (140, [some (.ref 40), some (.int 3), some (.int q1), some (.int q6.1), some (.int q7.1), some (.int (-1))], [], st q7.2 hs, 0, 0))
          refine ⟨fun _ => hX _ ?_, fun hc => absurd hc (by decide)⟩
          clear hP hX hk P' X cal
          have hr := Option.some.inj hr
          subst hr
          refine Wp.stepsG 2 (fun cal X P' hk hX hP => ?_)
          exact ⟨Or.inl rfl, hP _ _ h⟩
      · clear hP hX hk P' X cal
        rw [if_neg hc] at hr
        refine Wp.stepsG 5 (fun cal X P' hk hX hP => ?_)
        show (0 ≤ ((-1) : Int32) → X (129, [some (.ref 40), some (.int 3), some (.int q1), some (.int q6.1), some (.int (-1)), none], [], st q6.2 hs, 0, 0)) ∧ (¬ 0 ≤ ((-1) : Int32) → X (125, [some (.ref 40), some (.int 3), some (.int q1), some (.int q6.1), some (.int (-1)), none], [], st q6.2 hs, 0, 0))
        refine ⟨fun hc => absurd hc (by decide), fun _ => hX _ ?_⟩
        clear hP hX hk P' X cal
        refine Wp.stepsG 5 (fun cal X P' hk hX hP => ?_)
        show (((-1) : Int32) < 0 → X (159, [some (.ref 40), some (.int 3), some (.int q1), some (.int q6.1), some (.int (-1)), some (.int (-1))], [], st q6.2 hs, 0, 0)) ∧ (¬ ((-1) : Int32) < 0 → X (140, [some (.ref 40), some (.int 3), some (.int q1), some (.int q6.1), some (.int (-1)), some (.int (-1))], [], st q6.2 hs, 0, 0))
        refine ⟨fun _ => hX _ ?_, fun hc => absurd hc (by decide)⟩
        clear hP hX hk P' X cal
        have hr := Option.some.inj hr
        subst hr
        refine Wp.stepsG 2 (fun cal X P' hk hX hP => ?_)
        exact ⟨Or.inl rfl, hP _ _ h⟩
    · clear hP hX hk P' X cal
      rw [if_pos hc] at hr
      refine Wp.stepsG 3 (fun cal X P' hk hX hP => ?_)
      show ((3 : Int32) < 4 → X (28, [some (.ref 40), some (.int 3), some (.int q1), none, none, none], [], st S hs, 0, 0)) ∧ (¬ (3 : Int32) < 4 → X (26, [some (.ref 40), some (.int 3), some (.int q1), none, none, none], [], st S hs, 0, 0))
      refine ⟨fun _ => hX _ ?_, fun hc => absurd hc (by decide)⟩
      clear hP hX hk P' X cal
      refine Wp.stepsG 9 (fun cal X P' hk hX hP => ?_)
      show (¬ q1 = 33 → X (72, [some (.ref 40), some (.int 3), some (.int q1), none, none, none], [], st (sI S 40 7 ((S.1 40 7) + 1)) hs, 0, 0)) ∧ (q1 = 33 → X (44, [some (.ref 40), some (.int 3), some (.int q1), none, none, none], [], st (sI S 40 7 ((S.1 40 7) + 1)) hs, 0, 0))
      refine ⟨fun hc => hX _ ?_, fun hc => hX _ ?_⟩
      · clear hP hX hk P' X cal
        rw [if_neg hc] at hr
        refine Wp.stepsG 5 (fun cal X P' hk hX hP => ?_)
        show kcall cal ix_X5_learnEither [.ref 40, .int 4] (st (sI S 40 7 ((S.1 40 7) + 1)) hs) [] 0 0 (0, 0) (fun v σ' c' m' => X (79, [some (.ref 40), some (.int 3), some (.int q1), none, none, none], v.toList ++ [], σ', c', m'))
        obtain ⟨q10, hq10, hr⟩ := bd_some hr
        refine kcall0 rfl (hk _ _ _ _ _ _ (e_X5_learnEither_d4_40 (d + 0) (sI S 40 7 ((S.1 40 7) + 1)) hs q10 hq10 _ ?_))
        show X (79, [some (.ref 40), some (.int 3), some (.int q1), none, none, none], [.int q10.1], st q10.2 hs, 0, 0)
        refine hX _ ?_
        clear hP hX hk P' X cal
        refine Wp.stepsG 1 (fun cal X P' hk hX hP => ?_)
        show (q10.1 = 0 → X (95, [some (.ref 40), some (.int 3), some (.int q1), none, none, none], [], st q10.2 hs, 0, 0)) ∧ (¬ q10.1 = 0 → X (82, [some (.ref 40), some (.int 3), some (.int q1), none, none, none], [], st q10.2 hs, 0, 0))
        refine ⟨fun hc => hX _ ?_, fun hc => hX _ ?_⟩
        · clear hP hX hk P' X cal
          rw [if_pos hc] at hr
          have hr := Option.some.inj hr
          subst hr
          refine Wp.stepsG 2 (fun cal X P' hk hX hP => ?_)
          exact ⟨Or.inl rfl, hP _ _ h⟩
        · clear hP hX hk P' X cal
          rw [if_neg hc] at hr
          refine Wp.stepsG 3 (fun cal X P' hk hX hP => ?_)
          show kcall cal ix_X5_goBy [.ref 40, .int 41] (st q10.2 hs) [] 0 0 (0, 0) (fun v σ' c' m' => X (88, [some (.ref 40), some (.int 3), some (.int q1), none, none, none], v.toList ++ [], σ', c', m'))
          obtain ⟨q11, hq11, hr⟩ := bd_some hr
          refine kcall0 rfl (hk _ _ _ _ _ _ (e_X5_goBy_40 (d + 3) q10.2 hs 41 q11 hq11 _ ?_))
          show X (88, [some (.ref 40), some (.int 3), some (.int q1), none, none, none], [.int q11.1], st q11.2 hs, 0, 0)
          refine hX _ ?_
          clear hP hX hk P' X cal
          refine Wp.stepsG 1 (fun cal X P' hk hX hP => ?_)
          show (q11.1 = 0 → X (95, [some (.ref 40), some (.int 3), some (.int q1), none, none, none], [], st q11.2 hs, 0, 0)) ∧ (¬ q11.1 = 0 → X (91, [some (.ref 40), some (.int 3), some (.int q1), none, none, none], [], st q11.2 hs, 0, 0))
          refine ⟨fun hc => hX _ ?_, fun hc => hX _ ?_⟩
          · clear hP hX hk P' X cal
            rw [if_pos hc] at hr
            have hr := Option.some.inj hr
            subst hr
            refine Wp.stepsG 2 (fun cal X P' hk hX hP => ?_)
            exact ⟨Or.inl rfl, hP _ _ h⟩
          · clear hP hX hk P' X cal
            rw [if_neg hc] at hr
            have hr := Option.some.inj hr
            subst hr
            refine Wp.stepsG 3 (fun cal X P' hk hX hP => ?_)
            exact ⟨Or.inr rfl, hP _ _ h⟩
      · clear hP hX hk P' X cal
        rw [if_pos hc] at hr
        refine Wp.stepsG 5 (fun cal X P' hk hX hP => ?_)
        show kcall cal ix_X5_learnPart [.ref 40, .int 4] (st (sI S 40 7 ((S.1 40 7) + 1)) hs) [] 0 0 (0, 0) (fun v σ' c' m' => X (51, [some (.ref 40), some (.int 3), some (.int q1), none, none, none], v.toList ++ [], σ', c', m'))
        obtain ⟨q12, hq12, hr⟩ := bd_some hr
        refine kcall0 rfl (hk _ _ _ _ _ _ (e_X5_learnPart_d4_40 (d + 2) (sI S 40 7 ((S.1 40 7) + 1)) hs q12 hq12 _ ?_))
        show X (51, [some (.ref 40), some (.int 3), some (.int q1), none, none, none], [.int q12.1], st q12.2 hs, 0, 0)
        refine hX _ ?_
        clear hP hX hk P' X cal
        refine Wp.stepsG 1 (fun cal X P' hk hX hP => ?_)
        show (q12.1 = 0 → X (68, [some (.ref 40), some (.int 3), some (.int q1), none, none, none], [], st q12.2 hs, 0, 0)) ∧ (¬ q12.1 = 0 → X (54, [some (.ref 40), some (.int 3), some (.int q1), none, none, none], [], st q12.2 hs, 0, 0))
        refine ⟨fun hc => hX _ ?_, fun hc => hX _ ?_⟩
        · clear hP hX hk P' X cal
          rw [if_pos hc] at hr
          have hr := Option.some.inj hr
          subst hr
          refine Wp.stepsG 3 (fun cal X P' hk hX hP => ?_)
          exact ⟨Or.inl rfl, hP _ _ h⟩
        · clear hP hX hk P' X cal
          rw [if_neg hc] at hr
          refine Wp.stepsG 4 (fun cal X P' hk hX hP => ?_)
          show kcall cal ix_X5_add [.ref 40, .int 18, .int 0] (st q12.2 hs) [] 0 0 (0, 0) (fun v σ' c' m' => X (61, [some (.ref 40), some (.int 3), some (.int q1), none, none, none], v.toList ++ [], σ', c', m'))
          obtain ⟨q13, hq13, hr⟩ := bd_some hr
          refine kcall0 rfl (hk _ _ _ _ _ _ (e_X5_add_40 (d + 4) q12.2 hs 18 0 q13 hq13 _ ?_))
          show X (61, [some (.ref 40), some (.int 3), some (.int q1), none, none, none], [.int q13.1], st q13.2 hs, 0, 0)
          refine hX _ ?_
          clear hP hX hk P' X cal
          refine Wp.stepsG 1 (fun cal X P' hk hX hP => ?_)
          show (q13.1 = 0 → X (68, [some (.ref 40), some (.int 3), some (.int q1), none, none, none], [], st q13.2 hs, 0, 0)) ∧ (¬ q13.1 = 0 → X (64, [some (.ref 40), some (.int 3), some (.int q1), none, none, none], [], st q13.2 hs, 0, 0))
          refine ⟨fun hc => hX _ ?_, fun hc => hX _ ?_⟩
          · clear hP hX hk P' X cal
            rw [if_pos hc] at hr
            have hr := Option.some.inj hr
            subst hr
            refine Wp.stepsG 3 (fun cal X P' hk hX hP => ?_)
            exact ⟨Or.inl rfl, hP _ _ h⟩
          · clear hP hX hk P' X cal
            rw [if_neg hc] at hr
            have hr := Option.some.inj hr
            subst hr
            refine Wp.stepsG 3 (fun cal X P' hk hX hP => ?_)
            exact ⟨Or.inr rfl, hP _ _ h⟩
def lp_X5_learnBoth_d3_8 (o : Nat) : Nat → Int32 → Int32 → St → Option (Int32 × St)
  | 0, _, _, _ => none
  | n + 1, v2, v3, S =>
    if 100 ≤ v3 then
      some (v2, S)
    else
      if v2 = 0 then
        some (v2, S)
      else
        (r_X5_goBy S o 38).bind fun q2 =>
        if q2.1 = 0 then
          some (v2, q2.2)
        else
          (r_X5_learnPart_d3 q2.2 o).bind fun q3 =>
          if q3.1 = 0 then
            lp_X5_learnBoth_d3_8 o n 0 (v3 + 1) q3.2
          else
            (r_X5_add q3.2 o 19 0).bind fun q4 =>
            if q4.1 = 0 then
              lp_X5_learnBoth_d3_8 o n 0 (v3 + 1) q4.2
            else
              lp_X5_learnBoth_d3_8 o n 1 (v3 + 1) q4.2
def r_X5_learnBoth_d3 (S : St) (o : Nat) : Option (Int32 × St) :=
  (r_X5_learnPart_d3 S o).bind fun q1 =>
  (lp_X5_learnBoth_d3_8 o 4000 q1.1 0 q1.2).bind fun q5 =>
    gd (q5.1 = 0 ∨ q5.1 = 1) (some (q5.1, q5.2))
set_option maxRecDepth 20000 in
set_option maxHeartbeats 4000000 in
theorem e_lp_X5_learnBoth_d3_8_40 (d : Nat) (hs : List Hr) (P : Option Value → Hp → Prop) : ∀ (n : Nat) (v2 : Int32) (v3 : Int32) (S : St) (q : Int32 × St), lp_X5_learnBoth_d3_8 40 n v2 v3 S = some q → (WM mi_X5_learnBoth (d + 6) P 57 [some (.ref 40), some (.int 3), some (.int q.1), none] [] (st q.2 hs)) → WM mi_X5_learnBoth (d + 6) P 8 [some (.ref 40), some (.int 3), some (.int v2), some (.int v3)] [] (st S hs) := by
  intro n
  induction n with
  | zero =>
    intro v2 v3 S q hl
    cases hl
  | succ n ih =>
    intro v2 v3 S q hl ct
    rw [lp_X5_learnBoth_d3_8] at hl
    refine Wp.stepsG 3 (fun cal X P' hk hX hP => ?_)
    show (100 ≤ v3 → X (57, [some (.ref 40), some (.int 3), some (.int v2), some (.int v3)], [], st S hs, 0, 0)) ∧ (¬ 100 ≤ v3 → X (14, [some (.ref 40), some (.int 3), some (.int v2), some (.int v3)], [], st S hs, 0, 0))
    refine ⟨fun hc => hX _ ?_, fun hc => hX _ ?_⟩
    · clear hP hX hk P' X cal
      rw [if_pos hc] at hl
      have hl := Option.some.inj hl
      subst hl
      exact Wp.weak (leL.k (leL.k (leL.k (leL.n leL.z)))) (ct)
    · clear hP hX hk P' X cal
      rw [if_neg hc] at hl
      refine Wp.stepsG 2 (fun cal X P' hk hX hP => ?_)
      show (v2 = 0 → X (57, [some (.ref 40), some (.int 3), some (.int v2), some (.int v3)], [], st S hs, 0, 0)) ∧ (¬ v2 = 0 → X (18, [some (.ref 40), some (.int 3), some (.int v2), some (.int v3)], [], st S hs, 0, 0))
      refine ⟨fun hc => hX _ ?_, fun hc => hX _ ?_⟩
      · clear hP hX hk P' X cal
        rw [if_pos hc] at hl
        have hl := Option.some.inj hl
        subst hl
        exact Wp.weak (leL.k (leL.k (leL.k (leL.n leL.z)))) (ct)
      · clear hP hX hk P' X cal
        rw [if_neg hc] at hl
        refine Wp.stepsG 3 (fun cal X P' hk hX hP => ?_)
        show kcall cal ix_X5_goBy [.ref 40, .int 38] (st S hs) [] 0 0 (0, 0) (fun v σ' c' m' => X (24, [some (.ref 40), some (.int 3), some (.int v2), some (.int v3)], v.toList ++ [], σ', c', m'))
        obtain ⟨q2, hq2, hl⟩ := bd_some hl
        refine kcall0 rfl (hk _ _ _ _ _ _ (e_X5_goBy_40 (d + 4) S hs 38 q2 hq2 _ ?_))
        show X (24, [some (.ref 40), some (.int 3), some (.int v2), some (.int v3)], [.int q2.1], st q2.2 hs, 0, 0)
        refine hX _ ?_
        clear hP hX hk P' X cal
        refine Wp.stepsG 1 (fun cal X P' hk hX hP => ?_)
        show (q2.1 = 0 → X (57, [some (.ref 40), some (.int 3), some (.int v2), some (.int v3)], [], st q2.2 hs, 0, 0)) ∧ (¬ q2.1 = 0 → X (27, [some (.ref 40), some (.int 3), some (.int v2), some (.int v3)], [], st q2.2 hs, 0, 0))
        refine ⟨fun hc => hX _ ?_, fun hc => hX _ ?_⟩
        · clear hP hX hk P' X cal
          rw [if_pos hc] at hl
          have hl := Option.some.inj hl
          subst hl
          exact Wp.weak (leL.k (leL.k (leL.k (leL.n leL.z)))) (ct)
        · clear hP hX hk P' X cal
          rw [if_neg hc] at hl
          refine Wp.stepsG 3 (fun cal X P' hk hX hP => ?_)
          show kcall cal ix_X5_learnPart [.ref 40, .int 3] (st q2.2 hs) [] 0 0 (0, 0) (fun v σ' c' m' => X (32, [some (.ref 40), some (.int 3), some (.int v2), some (.int v3)], v.toList ++ [], σ', c', m'))
          obtain ⟨q3, hq3, hl⟩ := bd_some hl
          refine kcall0 rfl (hk _ _ _ _ _ _ (e_X5_learnPart_d3_40 (d + 0) q2.2 hs q3 hq3 _ ?_))
          show X (32, [some (.ref 40), some (.int 3), some (.int v2), some (.int v3)], [.int q3.1], st q3.2 hs, 0, 0)
          refine hX _ ?_
          clear hP hX hk P' X cal
          refine Wp.stepsG 1 (fun cal X P' hk hX hP => ?_)
          show (q3.1 = 0 → X (49, [some (.ref 40), some (.int 3), some (.int v2), some (.int v3)], [], st q3.2 hs, 0, 0)) ∧ (¬ q3.1 = 0 → X (35, [some (.ref 40), some (.int 3), some (.int v2), some (.int v3)], [], st q3.2 hs, 0, 0))
          refine ⟨fun hc => hX _ ?_, fun hc => hX _ ?_⟩
          · clear hP hX hk P' X cal
            rw [if_pos hc] at hl
            refine Wp.stepsG 4 (fun cal X P' hk hX hP => ?_)
            show X (8, [some (.ref 40), some (.int 3), some (.int 0), some (.int (v3 + 1))], [], st q3.2 hs, 0, 0)
            refine hX _ ?_
            exact (ih 0 (v3 + 1) q3.2 q hl ct)
          · clear hP hX hk P' X cal
            rw [if_neg hc] at hl
            refine Wp.stepsG 4 (fun cal X P' hk hX hP => ?_)
            show kcall cal ix_X5_add [.ref 40, .int 19, .int 0] (st q3.2 hs) [] 0 0 (0, 0) (fun v σ' c' m' => X (42, [some (.ref 40), some (.int 3), some (.int v2), some (.int v3)], v.toList ++ [], σ', c', m'))
            obtain ⟨q4, hq4, hl⟩ := bd_some hl
            refine kcall0 rfl (hk _ _ _ _ _ _ (e_X5_add_40 (d + 5) q3.2 hs 19 0 q4 hq4 _ ?_))
            show X (42, [some (.ref 40), some (.int 3), some (.int v2), some (.int v3)], [.int q4.1], st q4.2 hs, 0, 0)
            refine hX _ ?_
            clear hP hX hk P' X cal
            refine Wp.stepsG 1 (fun cal X P' hk hX hP => ?_)
            show (q4.1 = 0 → X (49, [some (.ref 40), some (.int 3), some (.int v2), some (.int v3)], [], st q4.2 hs, 0, 0)) ∧ (¬ q4.1 = 0 → X (45, [some (.ref 40), some (.int 3), some (.int v2), some (.int v3)], [], st q4.2 hs, 0, 0))
            refine ⟨fun hc => hX _ ?_, fun hc => hX _ ?_⟩
            · clear hP hX hk P' X cal
              rw [if_pos hc] at hl
              refine Wp.stepsG 4 (fun cal X P' hk hX hP => ?_)
              show X (8, [some (.ref 40), some (.int 3), some (.int 0), some (.int (v3 + 1))], [], st q4.2 hs, 0, 0)
              refine hX _ ?_
              exact (ih 0 (v3 + 1) q4.2 q hl ct)
            · clear hP hX hk P' X cal
              rw [if_neg hc] at hl
              refine Wp.stepsG 5 (fun cal X P' hk hX hP => ?_)
              show X (8, [some (.ref 40), some (.int 3), some (.int 1), some (.int (v3 + 1))], [], st q4.2 hs, 0, 0)
              refine hX _ ?_
              exact (ih 1 (v3 + 1) q4.2 q hl ct)
set_option maxRecDepth 20000 in
set_option maxHeartbeats 4000000 in
theorem e_X5_learnBoth_d3_40 (d : Nat) (S : St) (hs : List Hr) (v : Int32 × St) (hr : r_X5_learnBoth_d3 S 40 = some v) (P : Option Value → Hp → Prop) (h : P (some (.int v.1)) (st v.2 hs)) : Ev (d + 7) ix_X5_learnBoth 0 0 [.ref 40, .int 3] (st S hs) P := by
  refine Ev.intro (M := mi_X5_learnBoth) rfl (Nat.le_of_ble_eq_true rfl) ?_
  unfold r_X5_learnBoth_d3 at hr
  refine Wp.stepsG 3 (fun cal X P' hk hX hP => ?_)
  show kcall cal ix_X5_learnPart [.ref 40, .int 3] (st S hs) [] 0 0 (0, 0) (fun v σ' c' m' => X (5, [some (.ref 40), some (.int 3), none, none], v.toList ++ [], σ', c', m'))
  obtain ⟨q1, hq1, hr⟩ := bd_some hr
  refine kcall0 rfl (hk _ _ _ _ _ _ (e_X5_learnPart_d3_40 (d + 0) S hs q1 hq1 _ ?_))
  show X (5, [some (.ref 40), some (.int 3), none, none], [.int q1.1], st q1.2 hs, 0, 0)
  refine hX _ ?_
  clear hP hX hk P' X cal
  refine Wp.stepsG 3 (fun cal X P' hk hX hP => ?_)
  show X (8, [some (.ref 40), some (.int 3), some (.int q1.1), some (.int 0)], [], st q1.2 hs, 0, 0)
  refine hX _ ?_
  clear hP hX hk P' X cal
  obtain ⟨q5, hq5, hr⟩ := bd_some hr
  refine (e_lp_X5_learnBoth_d3_8_40 d hs P _ q1.1 0 q1.2 q5 hq5 ?_)
  obtain ⟨hb, hr⟩ := gd_some hr
  have hr := Option.some.inj hr
  subst hr
  refine Wp.stepsG 2 (fun cal X P' hk hX hP => ?_)
  exact ⟨hb, hP _ _ h⟩
def lp_X5_learnEither_d3_8 (o : Nat) : Nat → Int32 → Int32 → St → Option (Int32 × St)
  | 0, _, _, _ => none
  | n + 1, v2, v3, S =>
    if 100 ≤ v3 then
      some (v2, S)
    else
      if v2 = 0 then
        some (v2, S)
      else
        (r_X5_goBy S o 124).bind fun q2 =>
        if q2.1 = 0 then
          some (v2, q2.2)
        else
          (r_X5_learnBoth_d3 q2.2 o).bind fun q3 =>
          if q3.1 = 0 then
            lp_X5_learnEither_d3_8 o n 0 (v3 + 1) q3.2
          else
            (r_X5_add q3.2 o 20 0).bind fun q4 =>
            if q4.1 = 0 then
              lp_X5_learnEither_d3_8 o n 0 (v3 + 1) q4.2
            else
              lp_X5_learnEither_d3_8 o n 1 (v3 + 1) q4.2
def r_X5_learnEither_d3 (S : St) (o : Nat) : Option (Int32 × St) :=
  (r_X5_learnBoth_d3 S o).bind fun q1 =>
  (lp_X5_learnEither_d3_8 o 4000 q1.1 0 q1.2).bind fun q5 =>
    gd (q5.1 = 0 ∨ q5.1 = 1) (some (q5.1, q5.2))
set_option maxRecDepth 20000 in
set_option maxHeartbeats 4000000 in
theorem e_lp_X5_learnEither_d3_8_40 (d : Nat) (hs : List Hr) (P : Option Value → Hp → Prop) : ∀ (n : Nat) (v2 : Int32) (v3 : Int32) (S : St) (q : Int32 × St), lp_X5_learnEither_d3_8 40 n v2 v3 S = some q → (WM mi_X5_learnEither (d + 7) P 57 [some (.ref 40), some (.int 3), some (.int q.1), none] [] (st q.2 hs)) → WM mi_X5_learnEither (d + 7) P 8 [some (.ref 40), some (.int 3), some (.int v2), some (.int v3)] [] (st S hs) := by
  intro n
  induction n with
  | zero =>
    intro v2 v3 S q hl
    cases hl
  | succ n ih =>
    intro v2 v3 S q hl ct
    rw [lp_X5_learnEither_d3_8] at hl
    refine Wp.stepsG 3 (fun cal X P' hk hX hP => ?_)
    show (100 ≤ v3 → X (57, [some (.ref 40), some (.int 3), some (.int v2), some (.int v3)], [], st S hs, 0, 0)) ∧ (¬ 100 ≤ v3 → X (14, [some (.ref 40), some (.int 3), some (.int v2), some (.int v3)], [], st S hs, 0, 0))
    refine ⟨fun hc => hX _ ?_, fun hc => hX _ ?_⟩
    · clear hP hX hk P' X cal
      rw [if_pos hc] at hl
      have hl := Option.some.inj hl
      subst hl
      exact Wp.weak (leL.k (leL.k (leL.k (leL.n leL.z)))) (ct)
    · clear hP hX hk P' X cal
      rw [if_neg hc] at hl
      refine Wp.stepsG 2 (fun cal X P' hk hX hP => ?_)
      show (v2 = 0 → X (57, [some (.ref 40), some (.int 3), some (.int v2), some (.int v3)], [], st S hs, 0, 0)) ∧ (¬ v2 = 0 → X (18, [some (.ref 40), some (.int 3), some (.int v2), some (.int v3)], [], st S hs, 0, 0))
      refine ⟨fun hc => hX _ ?_, fun hc => hX _ ?_⟩
      · clear hP hX hk P' X cal
        rw [if_pos hc] at hl
        have hl := Option.some.inj hl
        subst hl
        exact Wp.weak (leL.k (leL.k (leL.k (leL.n leL.z)))) (ct)
      · clear hP hX hk P' X cal
        rw [if_neg hc] at hl
        refine Wp.stepsG 3 (fun cal X P' hk hX hP => ?_)
        show kcall cal ix_X5_goBy [.ref 40, .int 124] (st S hs) [] 0 0 (0, 0) (fun v σ' c' m' => X (24, [some (.ref 40), some (.int 3), some (.int v2), some (.int v3)], v.toList ++ [], σ', c', m'))
        obtain ⟨q2, hq2, hl⟩ := bd_some hl
        refine kcall0 rfl (hk _ _ _ _ _ _ (e_X5_goBy_40 (d + 5) S hs 124 q2 hq2 _ ?_))
        show X (24, [some (.ref 40), some (.int 3), some (.int v2), some (.int v3)], [.int q2.1], st q2.2 hs, 0, 0)
        refine hX _ ?_
        clear hP hX hk P' X cal
        refine Wp.stepsG 1 (fun cal X P' hk hX hP => ?_)
        show (q2.1 = 0 → X (57, [some (.ref 40), some (.int 3), some (.int v2), some (.int v3)], [], st q2.2 hs, 0, 0)) ∧ (¬ q2.1 = 0 → X (27, [some (.ref 40), some (.int 3), some (.int v2), some (.int v3)], [], st q2.2 hs, 0, 0))
        refine ⟨fun hc => hX _ ?_, fun hc => hX _ ?_⟩
        · clear hP hX hk P' X cal
          rw [if_pos hc] at hl
          have hl := Option.some.inj hl
          subst hl
          exact Wp.weak (leL.k (leL.k (leL.k (leL.n leL.z)))) (ct)
        · clear hP hX hk P' X cal
          rw [if_neg hc] at hl
          refine Wp.stepsG 3 (fun cal X P' hk hX hP => ?_)
          show kcall cal ix_X5_learnBoth [.ref 40, .int 3] (st q2.2 hs) [] 0 0 (0, 0) (fun v σ' c' m' => X (32, [some (.ref 40), some (.int 3), some (.int v2), some (.int v3)], v.toList ++ [], σ', c', m'))
          obtain ⟨q3, hq3, hl⟩ := bd_some hl
          refine kcall0 rfl (hk _ _ _ _ _ _ (e_X5_learnBoth_d3_40 (d + 0) q2.2 hs q3 hq3 _ ?_))
          show X (32, [some (.ref 40), some (.int 3), some (.int v2), some (.int v3)], [.int q3.1], st q3.2 hs, 0, 0)
          refine hX _ ?_
          clear hP hX hk P' X cal
          refine Wp.stepsG 1 (fun cal X P' hk hX hP => ?_)
          show (q3.1 = 0 → X (49, [some (.ref 40), some (.int 3), some (.int v2), some (.int v3)], [], st q3.2 hs, 0, 0)) ∧ (¬ q3.1 = 0 → X (35, [some (.ref 40), some (.int 3), some (.int v2), some (.int v3)], [], st q3.2 hs, 0, 0))
          refine ⟨fun hc => hX _ ?_, fun hc => hX _ ?_⟩
          · clear hP hX hk P' X cal
            rw [if_pos hc] at hl
            refine Wp.stepsG 4 (fun cal X P' hk hX hP => ?_)
            show X (8, [some (.ref 40), some (.int 3), some (.int 0), some (.int (v3 + 1))], [], st q3.2 hs, 0, 0)
            refine hX _ ?_
            exact (ih 0 (v3 + 1) q3.2 q hl ct)
          · clear hP hX hk P' X cal
            rw [if_neg hc] at hl
            refine Wp.stepsG 4 (fun cal X P' hk hX hP => ?_)
            show kcall cal ix_X5_add [.ref 40, .int 20, .int 0] (st q3.2 hs) [] 0 0 (0, 0) (fun v σ' c' m' => X (42, [some (.ref 40), some (.int 3), some (.int v2), some (.int v3)], v.toList ++ [], σ', c', m'))
            obtain ⟨q4, hq4, hl⟩ := bd_some hl
            refine kcall0 rfl (hk _ _ _ _ _ _ (e_X5_add_40 (d + 6) q3.2 hs 20 0 q4 hq4 _ ?_))
            show X (42, [some (.ref 40), some (.int 3), some (.int v2), some (.int v3)], [.int q4.1], st q4.2 hs, 0, 0)
            refine hX _ ?_
            clear hP hX hk P' X cal
            refine Wp.stepsG 1 (fun cal X P' hk hX hP => ?_)
            show (q4.1 = 0 → X (49, [some (.ref 40), some (.int 3), some (.int v2), some (.int v3)], [], st q4.2 hs, 0, 0)) ∧ (¬ q4.1 = 0 → X (45, [some (.ref 40), some (.int 3), some (.int v2), some (.int v3)], [], st q4.2 hs, 0, 0))
            refine ⟨fun hc => hX _ ?_, fun hc => hX _ ?_⟩
            · clear hP hX hk P' X cal
              rw [if_pos hc] at hl
              refine Wp.stepsG 4 (fun cal X P' hk hX hP => ?_)
              show X (8, [some (.ref 40), some (.int 3), some (.int 0), some (.int (v3 + 1))], [], st q4.2 hs, 0, 0)
              refine hX _ ?_
              exact (ih 0 (v3 + 1) q4.2 q hl ct)
            · clear hP hX hk P' X cal
              rw [if_neg hc] at hl
              refine Wp.stepsG 5 (fun cal X P' hk hX hP => ?_)
              show X (8, [some (.ref 40), some (.int 3), some (.int 1), some (.int (v3 + 1))], [], st q4.2 hs, 0, 0)
              refine hX _ ?_
              exact (ih 1 (v3 + 1) q4.2 q hl ct)
set_option maxRecDepth 20000 in
set_option maxHeartbeats 4000000 in
theorem e_X5_learnEither_d3_40 (d : Nat) (S : St) (hs : List Hr) (v : Int32 × St) (hr : r_X5_learnEither_d3 S 40 = some v) (P : Option Value → Hp → Prop) (h : P (some (.int v.1)) (st v.2 hs)) : Ev (d + 8) ix_X5_learnEither 0 0 [.ref 40, .int 3] (st S hs) P := by
  refine Ev.intro (M := mi_X5_learnEither) rfl (Nat.le_of_ble_eq_true rfl) ?_
  unfold r_X5_learnEither_d3 at hr
  refine Wp.stepsG 3 (fun cal X P' hk hX hP => ?_)
  show kcall cal ix_X5_learnBoth [.ref 40, .int 3] (st S hs) [] 0 0 (0, 0) (fun v σ' c' m' => X (5, [some (.ref 40), some (.int 3), none, none], v.toList ++ [], σ', c', m'))
  obtain ⟨q1, hq1, hr⟩ := bd_some hr
  refine kcall0 rfl (hk _ _ _ _ _ _ (e_X5_learnBoth_d3_40 (d + 0) S hs q1 hq1 _ ?_))
  show X (5, [some (.ref 40), some (.int 3), none, none], [.int q1.1], st q1.2 hs, 0, 0)
  refine hX _ ?_
  clear hP hX hk P' X cal
  refine Wp.stepsG 3 (fun cal X P' hk hX hP => ?_)
  show X (8, [some (.ref 40), some (.int 3), some (.int q1.1), some (.int 0)], [], st q1.2 hs, 0, 0)
  refine hX _ ?_
  clear hP hX hk P' X cal
  obtain ⟨q5, hq5, hr⟩ := bd_some hr
  refine (e_lp_X5_learnEither_d3_8_40 d hs P _ q1.1 0 q1.2 q5 hq5 ?_)
  obtain ⟨hb, hr⟩ := gd_some hr
  have hr := Option.some.inj hr
  subst hr
  refine Wp.stepsG 2 (fun cal X P' hk hX hP => ?_)
  exact ⟨hb, hP _ _ h⟩
def r_X5_learnPart_d2 (S : St) (o : Nat) : Option (Int32 × St) :=
  (r_X5_signAt S o (S.1 o 7)).bind fun q1 =>
  if q1 = 33 then
    if q1 = 33 then
      (r_X5_learnPart_d3 (sI S o 7 ((S.1 o 7) + 1)) o).bind fun q4 =>
      if q4.1 = 0 then
        some (0, q4.2)
      else
        (r_X5_add q4.2 o 18 0).bind fun q5 =>
        if q5.1 = 0 then
          some (0, q5.2)
        else
          some (1, q5.2)
    else
      (r_X5_learnEither_d3 (sI S o 7 ((S.1 o 7) + 1)) o).bind fun q2 =>
      if q2.1 = 0 then
        some (0, q2.2)
      else
        (r_X5_goBy q2.2 o 41).bind fun q3 =>
        if q3.1 = 0 then
          some (0, q3.2)
        else
          some (1, q3.2)
  else
    if q1 = 40 then
      if q1 = 33 then
        (r_X5_learnPart_d3 (sI S o 7 ((S.1 o 7) + 1)) o).bind fun q12 =>
        if q12.1 = 0 then
          some (0, q12.2)
        else
          (r_X5_add q12.2 o 18 0).bind fun q13 =>
          if q13.1 = 0 then
            some (0, q13.2)
          else
            some (1, q13.2)
      else
        (r_X5_learnEither_d3 (sI S o 7 ((S.1 o 7) + 1)) o).bind fun q10 =>
        if q10.1 = 0 then
          some (0, q10.2)
        else
          (r_X5_goBy q10.2 o 41).bind fun q11 =>
          if q11.1 = 0 then
            some (0, q11.2)
          else
            some (1, q11.2)
    else
      (r_X5_goByOneOf_1 S o).bind fun q6 =>
      if 0 ≤ q6.1 then
        (r_X5_goByOneOf_2 q6.2 o).bind fun q7 =>
        if 0 ≤ q7.1 then
          (r_X5_goByNumber q7.2 o).bind fun q8 =>
          if q8.1 < 0 then
            some (0, q8.2)
          else
            (r_X5_add q8.2 o (((3 : Int32) * q6.1) + q7.1) q8.1).bind fun q9 =>
            if q9.1 = 0 then
              some (0, q9.2)
            else
              some (1, q9.2)
        else
          some (0, q7.2)
      else
        some (0, q6.2)
