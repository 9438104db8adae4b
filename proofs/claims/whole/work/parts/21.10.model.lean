def r_X12_politeLaughs (S : St) (a1 : Int32) (a2 : Int32) : Option (Int32 × St) :=
  (r_X12_body S 20).bind fun q1 =>
  (r_X12_hearerLaughs q1.2 a1 a2).bind fun q2 =>
  some (q2.1 ^^^ 6, q2.2)
set_option maxRecDepth 20000 in
set_option maxHeartbeats 4000000 in
theorem e_X12_politeLaughs (d : Nat) (S : St) (hs : List Hr) (a1 : Int32) (a2 : Int32) (v : Int32 × St) (hr : r_X12_politeLaughs S a1 a2 = some v) (P : Option Value → Hp → Prop) (h : P (some (.int v.1)) (st v.2 hs)) : Ev (d + 5) ix_X12_politeLaughs 0 0 [.ref 76, .int a1, .int a2] (st S hs) P := by
  refine Ev.intro (M := mi_X12_politeLaughs) rfl (Nat.le_of_ble_eq_true rfl) ?_
  unfold r_X12_politeLaughs at hr
  refine Wp.stepsG 3 (fun cal X P' hk hX hP => ?_)
  show kcall cal ix_X12_body [.ref 76, .int 20] (st S hs) [] 0 0 (0, 0) (fun v σ' c' m' => X (6, [some (.ref 76), some (.int a1), some (.int a2)], v.toList ++ [], σ', c', m'))
  obtain ⟨q1, hq1, hr⟩ := bd_some hr
  refine kcall0 rfl (hk _ _ _ _ _ _ (e_X12_body (d + 3) S hs 20 q1 hq1 _ ?_))
  show X (6, [some (.ref 76), some (.int a1), some (.int a2)], [], st q1.2 hs, 0, 0)
  refine hX _ ?_
  clear hP hX hk P' X cal
  refine Wp.stepsG 4 (fun cal X P' hk hX hP => ?_)
  show kcall cal ix_X12_hearerLaughs [.ref 76, .int a1, .int a2] (st q1.2 hs) [] 0 0 (0, 0) (fun v σ' c' m' => X (12, [some (.ref 76), some (.int a1), some (.int a2)], v.toList ++ [], σ', c', m'))
  obtain ⟨q2, hq2, hr⟩ := bd_some hr
  refine kcall0 rfl (hk _ _ _ _ _ _ (e_X12_hearerLaughs (d + 0) q1.2 hs a1 a2 q2 hq2 _ ?_))
  show X (12, [some (.ref 76), some (.int a1), some (.int a2)], [.int q2.1], st q2.2 hs, 0, 0)
  refine hX _ ?_
  clear hP hX hk P' X cal
  have hr := Option.some.inj hr
  subst hr
  refine Wp.stepsG 3 (fun cal X P' hk hX hP => ?_)
  exact hP _ _ h
def r_X12_laughsAct (S : St) (a1 : Int32) (a2 : Int32) : Option (Int32 × St) :=
  gd (¬ (a1 < 0 ∨ 6 ≤ a1.toNatClampNeg)) (
    if ((S.1 79) a1.toNatClampNeg) = 1 then
      (r_X12_politeLaughs S a1 a2).bind fun q1 =>
      some (q1.1, q1.2)
    else
    if ((S.1 79) a1.toNatClampNeg) = 4 then
      (r_X12_body S 51).bind fun q2 =>
      (r_X12_politeLaughs q2.2 a1 (a2 + 1)).bind fun q3 =>
      some (q3.1, q3.2)
    else
    if ((S.1 79) a1.toNatClampNeg) = 6 then
      (r_X12_body S 70).bind fun q4 =>
      (r_X12_hearerLaughs q4.2 a1 a2).bind fun q5 =>
      (r_X12_hearerHears q5.2 a1 2).bind fun q6 =>
      some (q5.1 + q6.1, q6.2)
    else
      (r_X12_hearerLaughs S a1 a2).bind fun q7 =>
      some (q7.1, q7.2))
set_option maxRecDepth 20000 in
set_option maxHeartbeats 4000000 in
theorem e_X12_laughsAct (d : Nat) (S : St) (hs : List Hr) (a1 : Int32) (a2 : Int32) (v : Int32 × St) (hr : r_X12_laughsAct S a1 a2 = some v) (P : Option Value → Hp → Prop) (h : P (some (.int v.1)) (st v.2 hs)) : Ev (d + 6) ix_X12_laughsAct 0 0 [.ref 76, .int a1, .int a2] (st S hs) P := by
  refine Ev.intro (M := mi_X12_laughsAct) rfl (Nat.le_of_ble_eq_true rfl) ?_
  unfold r_X12_laughsAct at hr
  refine Wp.stepsG 4 (fun cal X P' hk hX hP => ?_)
  show vp_in a1 6 ∧ X (6, [some (.ref 76), some (.int a1), some (.int a2), none], [.int ((S.1 79) a1.toNatClampNeg)], st S hs, 0, 0)
  obtain ⟨hg, hr⟩ := gd_some hr
  refine ⟨hg, hX _ ?_⟩
  clear hP hX hk P' X cal
  refine Wp.stepsG 1 (fun cal X P' hk hX hP => ?_)
  show (((S.1 79) a1.toNatClampNeg) = 1 → X (40, [some (.ref 76), some (.int a1), some (.int a2), none], [], st S hs, 0, 0)) ∧ (¬ ((S.1 79) a1.toNatClampNeg) = 1 → (((S.1 79) a1.toNatClampNeg) = 4 → X (47, [some (.ref 76), some (.int a1), some (.int a2), none], [], st S hs, 0, 0)) ∧ (¬ ((S.1 79) a1.toNatClampNeg) = 4 → (((S.1 79) a1.toNatClampNeg) = 6 → X (62, [some (.ref 76), some (.int a1), some (.int a2), none], [], st S hs, 0, 0)) ∧ (¬ ((S.1 79) a1.toNatClampNeg) = 6 → X (84, [some (.ref 76), some (.int a1), some (.int a2), none], [], st S hs, 0, 0))))
  refine ⟨fun hc => hX _ ?_, fun hc => ?_⟩
  · clear hP hX hk P' X cal
    rw [if_pos hc] at hr
    refine Wp.stepsG 4 (fun cal X P' hk hX hP => ?_)
    show kcall cal ix_X12_politeLaughs [.ref 76, .int a1, .int a2] (st S hs) [] 0 0 (0, 0) (fun v σ' c' m' => X (46, [some (.ref 76), some (.int a1), some (.int a2), none], v.toList ++ [], σ', c', m'))
    obtain ⟨q1, hq1, hr⟩ := bd_some hr
    refine kcall0 rfl (hk _ _ _ _ _ _ (e_X12_politeLaughs (d + 0) S hs a1 a2 q1 hq1 _ ?_))
    show X (46, [some (.ref 76), some (.int a1), some (.int a2), none], [.int q1.1], st q1.2 hs, 0, 0)
    refine hX _ ?_
    clear hP hX hk P' X cal
    have hr := Option.some.inj hr
    subst hr
    refine Wp.stepsG 1 (fun cal X P' hk hX hP => ?_)
    exact hP _ _ h
  · rw [if_neg hc] at hr
    refine ⟨fun hc => hX _ ?_, fun hc => ?_⟩
    · clear hP hX hk P' X cal
      rw [if_pos hc] at hr
      refine Wp.stepsG 3 (fun cal X P' hk hX hP => ?_)
      show kcall cal ix_X12_body [.ref 76, .int 51] (st S hs) [] 0 0 (0, 0) (fun v σ' c' m' => X (53, [some (.ref 76), some (.int a1), some (.int a2), none], v.toList ++ [], σ', c', m'))
      obtain ⟨q2, hq2, hr⟩ := bd_some hr
      refine kcall0 rfl (hk _ _ _ _ _ _ (e_X12_body (d + 4) S hs 51 q2 hq2 _ ?_))
      show X (53, [some (.ref 76), some (.int a1), some (.int a2), none], [], st q2.2 hs, 0, 0)
      refine hX _ ?_
      clear hP hX hk P' X cal
      refine Wp.stepsG 6 (fun cal X P' hk hX hP => ?_)
      show kcall cal ix_X12_politeLaughs [.ref 76, .int a1, .int (a2 + 1)] (st q2.2 hs) [] 0 0 (0, 0) (fun v σ' c' m' => X (61, [some (.ref 76), some (.int a1), some (.int a2), none], v.toList ++ [], σ', c', m'))
      obtain ⟨q3, hq3, hr⟩ := bd_some hr
      refine kcall0 rfl (hk _ _ _ _ _ _ (e_X12_politeLaughs (d + 0) q2.2 hs a1 (a2 + 1) q3 hq3 _ ?_))
      show X (61, [some (.ref 76), some (.int a1), some (.int a2), none], [.int q3.1], st q3.2 hs, 0, 0)
      refine hX _ ?_
      clear hP hX hk P' X cal
      have hr := Option.some.inj hr
      subst hr
      refine Wp.stepsG 1 (fun cal X P' hk hX hP => ?_)
      exact hP _ _ h
    · rw [if_neg hc] at hr
      refine ⟨fun hc => hX _ ?_, fun hc => hX _ ?_⟩
      · clear hP hX hk P' X cal
        rw [if_pos hc] at hr
        refine Wp.stepsG 3 (fun cal X P' hk hX hP => ?_)
        show kcall cal ix_X12_body [.ref 76, .int 70] (st S hs) [] 0 0 (0, 0) (fun v σ' c' m' => X (68, [some (.ref 76), some (.int a1), some (.int a2), none], v.toList ++ [], σ', c', m'))
        obtain ⟨q4, hq4, hr⟩ := bd_some hr
        refine kcall0 rfl (hk _ _ _ _ _ _ (e_X12_body (d + 4) S hs 70 q4 hq4 _ ?_))
        show X (68, [some (.ref 76), some (.int a1), some (.int a2), none], [], st q4.2 hs, 0, 0)
        refine hX _ ?_
        clear hP hX hk P' X cal
        refine Wp.stepsG 4 (fun cal X P' hk hX hP => ?_)
        show kcall cal ix_X12_hearerLaughs [.ref 76, .int a1, .int a2] (st q4.2 hs) [] 0 0 (0, 0) (fun v σ' c' m' => X (74, [some (.ref 76), some (.int a1), some (.int a2), none], v.toList ++ [], σ', c', m'))
        obtain ⟨q5, hq5, hr⟩ := bd_some hr
        refine kcall0 rfl (hk _ _ _ _ _ _ (e_X12_hearerLaughs (d + 1) q4.2 hs a1 a2 q5 hq5 _ ?_))
        show X (74, [some (.ref 76), some (.int a1), some (.int a2), none], [.int q5.1], st q5.2 hs, 0, 0)
        refine hX _ ?_
        clear hP hX hk P' X cal
        refine Wp.stepsG 6 (fun cal X P' hk hX hP => ?_)
        show kcall cal ix_X12_hearerHears [.ref 76, .int a1, .int 2] (st q5.2 hs) [.int q5.1] 0 0 (0, 0) (fun v σ' c' m' => X (82, [some (.ref 76), some (.int a1), some (.int a2), some (.int q5.1)], v.toList ++ [.int q5.1], σ', c', m'))
        obtain ⟨q6, hq6, hr⟩ := bd_some hr
        refine kcall0 rfl (hk _ _ _ _ _ _ (e_X12_hearerHears (d + 3) q5.2 hs a1 2 q6 hq6 _ ?_))
        show X (82, [some (.ref 76), some (.int a1), some (.int a2), some (.int q5.1)], [.int q6.1, .int q5.1], st q6.2 hs, 0, 0)
        refine hX _ ?_
        clear hP hX hk P' X cal
        have hr := Option.some.inj hr
        subst hr
        refine Wp.stepsG 2 (fun cal X P' hk hX hP => ?_)
        exact hP _ _ h
      · rw [if_neg hc] at hr
        clear hP hX hk P' X cal
        refine Wp.stepsG 4 (fun cal X P' hk hX hP => ?_)
        show kcall cal ix_X12_hearerLaughs [.ref 76, .int a1, .int a2] (st S hs) [] 0 0 (0, 0) (fun v σ' c' m' => X (90, [some (.ref 76), some (.int a1), some (.int a2), none], v.toList ++ [], σ', c', m'))
        obtain ⟨q7, hq7, hr⟩ := bd_some hr
        refine kcall0 rfl (hk _ _ _ _ _ _ (e_X12_hearerLaughs (d + 1) S hs a1 a2 q7 hq7 _ ?_))
        show X (90, [some (.ref 76), some (.int a1), some (.int a2), none], [.int q7.1], st q7.2 hs, 0, 0)
        refine hX _ ?_
        clear hP hX hk P' X cal
        have hr := Option.some.inj hr
        subst hr
        refine Wp.stepsG 1 (fun cal X P' hk hX hP => ?_)
        exact hP _ _ h
def r_X12_hearerTells (S : St) (a1 : Int32) (a2 : Int32) : Option (Int32 × St) :=
  (r_X12_body S 12).bind fun q1 =>
  (r_X12_laughsAct q1.2 a1 a2).bind fun q2 =>
  some (q2.1 * 2, q2.2)
set_option maxRecDepth 20000 in
set_option maxHeartbeats 4000000 in
theorem e_X12_hearerTells (d : Nat) (S : St) (hs : List Hr) (a1 : Int32) (a2 : Int32) (v : Int32 × St) (hr : r_X12_hearerTells S a1 a2 = some v) (P : Option Value → Hp → Prop) (h : P (some (.int v.1)) (st v.2 hs)) : Ev (d + 7) ix_X12_hearerTells 0 0 [.ref 76, .int a1, .int a2] (st S hs) P := by
  refine Ev.intro (M := mi_X12_hearerTells) rfl (Nat.le_of_ble_eq_true rfl) ?_
  unfold r_X12_hearerTells at hr
  refine Wp.stepsG 3 (fun cal X P' hk hX hP => ?_)
  show kcall cal ix_X12_body [.ref 76, .int 12] (st S hs) [] 0 0 (0, 0) (fun v σ' c' m' => X (6, [some (.ref 76), some (.int a1), some (.int a2)], v.toList ++ [], σ', c', m'))
  obtain ⟨q1, hq1, hr⟩ := bd_some hr
  refine kcall0 rfl (hk _ _ _ _ _ _ (e_X12_body (d + 5) S hs 12 q1 hq1 _ ?_))
  show X (6, [some (.ref 76), some (.int a1), some (.int a2)], [], st q1.2 hs, 0, 0)
  refine hX _ ?_
  clear hP hX hk P' X cal
  refine Wp.stepsG 4 (fun cal X P' hk hX hP => ?_)
  show kcall cal ix_X12_laughsAct [.ref 76, .int a1, .int a2] (st q1.2 hs) [] 0 0 (0, 0) (fun v σ' c' m' => X (12, [some (.ref 76), some (.int a1), some (.int a2)], v.toList ++ [], σ', c', m'))
  obtain ⟨q2, hq2, hr⟩ := bd_some hr
  refine kcall0 rfl (hk _ _ _ _ _ _ (e_X12_laughsAct (d + 0) q1.2 hs a1 a2 q2 hq2 _ ?_))
  show X (12, [some (.ref 76), some (.int a1), some (.int a2)], [.int q2.1], st q2.2 hs, 0, 0)
  refine hX _ ?_
  clear hP hX hk P' X cal
  have hr := Option.some.inj hr
  subst hr
  refine Wp.stepsG 3 (fun cal X P' hk hX hP => ?_)
  exact hP _ _ h
def r_X12_tellsAct (S : St) (a1 : Int32) (a2 : Int32) : Option (Int32 × St) :=
  gd (¬ (a1 < 0 ∨ 6 ≤ a1.toNatClampNeg)) (
    if ((S.1 79) a1.toNatClampNeg) = 3 then
      (r_X12_body S 40).bind fun q1 =>
      (r_X12_hearerTells q1.2 a1 a2).bind fun q2 =>
      (r_X12_laughsAct q2.2 a1 1).bind fun q3 =>
      some (q2.1 + q3.1, q3.2)
    else
    if ((S.1 79) a1.toNatClampNeg) = 4 then
      (r_X12_hearerTells S a1 a2).bind fun q4 =>
      some (q4.1, q4.2)
    else
    if ((S.1 79) a1.toNatClampNeg) = 5 then
      (r_X12_body S 60).bind fun q5 =>
      (r_X12_hearerTells q5.2 a1 (a2 - a1)).bind fun q6 =>
      some (q6.1, q6.2)
    else
    if ((S.1 79) a1.toNatClampNeg) = 6 then
      (r_X12_body S 40).bind fun q7 =>
      (r_X12_hearerTells q7.2 a1 a2).bind fun q8 =>
      (r_X12_laughsAct q8.2 a1 1).bind fun q9 =>
      some (q8.1 + q9.1, q9.2)
    else
      (r_X12_hearerTells S a1 a2).bind fun q10 =>
      some (q10.1, q10.2))
set_option maxRecDepth 20000 in
set_option maxHeartbeats 4000000 in
theorem e_X12_tellsAct (d : Nat) (S : St) (hs : List Hr) (a1 : Int32) (a2 : Int32) (v : Int32 × St) (hr : r_X12_tellsAct S a1 a2 = some v) (P : Option Value → Hp → Prop) (h : P (some (.int v.1)) (st v.2 hs)) : Ev (d + 8) ix_X12_tellsAct 0 0 [.ref 76, .int a1, .int a2] (st S hs) P := by
  refine Ev.intro (M := mi_X12_tellsAct) rfl (Nat.le_of_ble_eq_true rfl) ?_
  unfold r_X12_tellsAct at hr
  refine Wp.stepsG 4 (fun cal X P' hk hX hP => ?_)
  show vp_in a1 6 ∧ X (6, [some (.ref 76), some (.int a1), some (.int a2), none], [.int ((S.1 79) a1.toNatClampNeg)], st S hs, 0, 0)
  obtain ⟨hg, hr⟩ := gd_some hr
  refine ⟨hg, hX _ ?_⟩
  clear hP hX hk P' X cal
  refine Wp.stepsG 1 (fun cal X P' hk hX hP => ?_)
  show (((S.1 79) a1.toNatClampNeg) = 3 → X (36, [some (.ref 76), some (.int a1), some (.int a2), none], [], st S hs, 0, 0)) ∧ (¬ ((S.1 79) a1.toNatClampNeg) = 3 → (((S.1 79) a1.toNatClampNeg) = 4 → X (73, [some (.ref 76), some (.int a1), some (.int a2), none], [], st S hs, 0, 0)) ∧ (¬ ((S.1 79) a1.toNatClampNeg) = 4 → (((S.1 79) a1.toNatClampNeg) = 5 → X (58, [some (.ref 76), some (.int a1), some (.int a2), none], [], st S hs, 0, 0)) ∧ (¬ ((S.1 79) a1.toNatClampNeg) = 5 → (((S.1 79) a1.toNatClampNeg) = 6 → X (36, [some (.ref 76), some (.int a1), some (.int a2), none], [], st S hs, 0, 0)) ∧ (¬ ((S.1 79) a1.toNatClampNeg) = 6 → X (73, [some (.ref 76), some (.int a1), some (.int a2), none], [], st S hs, 0, 0)))))
  refine ⟨fun hc => hX _ ?_, fun hc => ?_⟩
  · clear hP hX hk P' X cal
    rw [if_pos hc] at hr
    refine Wp.stepsG 3 (fun cal X P' hk hX hP => ?_)
    show kcall cal ix_X12_body [.ref 76, .int 40] (st S hs) [] 0 0 (0, 0) (fun v σ' c' m' => X (42, [some (.ref 76), some (.int a1), some (.int a2), none], v.toList ++ [], σ', c', m'))
    obtain ⟨q1, hq1, hr⟩ := bd_some hr
    refine kcall0 rfl (hk _ _ _ _ _ _ (e_X12_body (d + 6) S hs 40 q1 hq1 _ ?_))
    show X (42, [some (.ref 76), some (.int a1), some (.int a2), none], [], st q1.2 hs, 0, 0)
    refine hX _ ?_
    clear hP hX hk P' X cal
    refine Wp.stepsG 4 (fun cal X P' hk hX hP => ?_)
    show kcall cal ix_X12_hearerTells [.ref 76, .int a1, .int a2] (st q1.2 hs) [] 0 0 (0, 0) (fun v σ' c' m' => X (48, [some (.ref 76), some (.int a1), some (.int a2), none], v.toList ++ [], σ', c', m'))
    obtain ⟨q2, hq2, hr⟩ := bd_some hr
    refine kcall0 rfl (hk _ _ _ _ _ _ (e_X12_hearerTells (d + 0) q1.2 hs a1 a2 q2 hq2 _ ?_))
    show X (48, [some (.ref 76), some (.int a1), some (.int a2), none], [.int q2.1], st q2.2 hs, 0, 0)
    refine hX _ ?_
    clear hP hX hk P' X cal
    refine Wp.stepsG 6 (fun cal X P' hk hX hP => ?_)
    show kcall cal ix_X12_laughsAct [.ref 76, .int a1, .int 1] (st q2.2 hs) [.int q2.1] 0 0 (0, 0) (fun v σ' c' m' => X (56, [some (.ref 76), some (.int a1), some (.int a2), some (.int q2.1)], v.toList ++ [.int q2.1], σ', c', m'))
    obtain ⟨q3, hq3, hr⟩ := bd_some hr
    refine kcall0 rfl (hk _ _ _ _ _ _ (e_X12_laughsAct (d + 1) q2.2 hs a1 1 q3 hq3 _ ?_))
    show X (56, [some (.ref 76), some (.int a1), some (.int a2), some (.int q2.1)], [.int q3.1, .int q2.1], st q3.2 hs, 0, 0)
    refine hX _ ?_
    clear hP hX hk P' X cal
    have hr := Option.some.inj hr
    subst hr
    refine Wp.stepsG 2 (fun cal X P' hk hX hP => ?_)
    exact hP _ _ h
  · rw [if_neg hc] at hr
    refine ⟨fun hc => hX _ ?_, fun hc => ?_⟩
    · clear hP hX hk P' X cal
      rw [if_pos hc] at hr
      refine Wp.stepsG 4 (fun cal X P' hk hX hP => ?_)
      show kcall cal ix_X12_hearerTells [.ref 76, .int a1, .int a2] (st S hs) [] 0 0 (0, 0) (fun v σ' c' m' => X (79, [some (.ref 76), some (.int a1), some (.int a2), none], v.toList ++ [], σ', c', m'))
      obtain ⟨q4, hq4, hr⟩ := bd_some hr
      refine kcall0 rfl (hk _ _ _ _ _ _ (e_X12_hearerTells (d + 0) S hs a1 a2 q4 hq4 _ ?_))
      show X (79, [some (.ref 76), some (.int a1), some (.int a2), none], [.int q4.1], st q4.2 hs, 0, 0)
      refine hX _ ?_
      clear hP hX hk P' X cal
      have hr := Option.some.inj hr
      subst hr
      refine Wp.stepsG 1 (fun cal X P' hk hX hP => ?_)
      exact hP _ _ h
    · rw [if_neg hc] at hr
      refine ⟨fun hc => hX _ ?_, fun hc => ?_⟩
      · clear hP hX hk P' X cal
        rw [if_pos hc] at hr
        refine Wp.stepsG 3 (fun cal X P' hk hX hP => ?_)
        show kcall cal ix_X12_body [.ref 76, .int 60] (st S hs) [] 0 0 (0, 0) (fun v σ' c' m' => X (64, [some (.ref 76), some (.int a1), some (.int a2), none], v.toList ++ [], σ', c', m'))
        obtain ⟨q5, hq5, hr⟩ := bd_some hr
        refine kcall0 rfl (hk _ _ _ _ _ _ (e_X12_body (d + 6) S hs 60 q5 hq5 _ ?_))
        show X (64, [some (.ref 76), some (.int a1), some (.int a2), none], [], st q5.2 hs, 0, 0)
        refine hX _ ?_
        clear hP hX hk P' X cal
        refine Wp.stepsG 6 (fun cal X P' hk hX hP => ?_)
        show kcall cal ix_X12_hearerTells [.ref 76, .int a1, .int (a2 - a1)] (st q5.2 hs) [] 0 0 (0, 0) (fun v σ' c' m' => X (72, [some (.ref 76), some (.int a1), some (.int a2), none], v.toList ++ [], σ', c', m'))
        obtain ⟨q6, hq6, hr⟩ := bd_some hr
        refine kcall0 rfl (hk _ _ _ _ _ _ (e_X12_hearerTells (d + 0) q5.2 hs a1 (a2 - a1) q6 hq6 _ ?_))
        show X (72, [some (.ref 76), some (.int a1), some (.int a2), none], [.int q6.1], st q6.2 hs, 0, 0)
        refine hX _ ?_
        clear hP hX hk P' X cal
        have hr := Option.some.inj hr
        subst hr
        refine Wp.stepsG 1 (fun cal X P' hk hX hP => ?_)
        exact hP _ _ h
      · rw [if_neg hc] at hr
        refine ⟨fun hc => hX _ ?_, fun hc => hX _ ?_⟩
        · clear hP hX hk P' X cal
          rw [if_pos hc] at hr
          refine Wp.stepsG 3 (fun cal X P' hk hX hP => ?_)
          show kcall cal ix_X12_body [.ref 76, .int 40] (st S hs) [] 0 0 (0, 0) (fun v σ' c' m' => X (42, [some (.ref 76), some (.int a1), some (.int a2), none], v.toList ++ [], σ', c', m'))
          obtain ⟨q7, hq7, hr⟩ := bd_some hr
          refine kcall0 rfl (hk _ _ _ _ _ _ (e_X12_body (d + 6) S hs 40 q7 hq7 _ ?_))
          show X (42, [some (.ref 76), some (.int a1), some (.int a2), none], [], st q7.2 hs, 0, 0)
          refine hX _ ?_
          clear hP hX hk P' X cal
          refine Wp.stepsG 4 (fun cal X P' hk hX hP => ?_)
          show kcall cal ix_X12_hearerTells [.ref 76, .int a1, .int a2] (st q7.2 hs) [] 0 0 (0, 0) (fun v σ' c' m' => X (48, [some (.ref 76), some (.int a1), some (.int a2), none], v.toList ++ [], σ', c', m'))
          obtain ⟨q8, hq8, hr⟩ := bd_some hr
          refine kcall0 rfl (hk _ _ _ _ _ _ (e_X12_hearerTells (d + 0) q7.2 hs a1 a2 q8 hq8 _ ?_))
          show X (48, [some (.ref 76), some (.int a1), some (.int a2), none], [.int q8.1], st q8.2 hs, 0, 0)
          refine hX _ ?_
          clear hP hX hk P' X cal
          refine Wp.stepsG 6 (fun cal X P' hk hX hP => ?_)
          show kcall cal ix_X12_laughsAct [.ref 76, .int a1, .int 1] (st q8.2 hs) [.int q8.1] 0 0 (0, 0) (fun v σ' c' m' => X (56, [some (.ref 76), some (.int a1), some (.int a2), some (.int q8.1)], v.toList ++ [.int q8.1], σ', c', m'))
          obtain ⟨q9, hq9, hr⟩ := bd_some hr
          refine kcall0 rfl (hk _ _ _ _ _ _ (e_X12_laughsAct (d + 1) q8.2 hs a1 1 q9 hq9 _ ?_))
          show X (56, [some (.ref 76), some (.int a1), some (.int a2), some (.int q8.1)], [.int q9.1, .int q8.1], st q9.2 hs, 0, 0)
          refine hX _ ?_
          clear hP hX hk P' X cal
          have hr := Option.some.inj hr
          subst hr
          refine Wp.stepsG 2 (fun cal X P' hk hX hP => ?_)
          exact hP _ _ h
        · rw [if_neg hc] at hr
          clear hP hX hk P' X cal
          refine Wp.stepsG 4 (fun cal X P' hk hX hP => ?_)
          show kcall cal ix_X12_hearerTells [.ref 76, .int a1, .int a2] (st S hs) [] 0 0 (0, 0) (fun v σ' c' m' => X (79, [some (.ref 76), some (.int a1), some (.int a2), none], v.toList ++ [], σ', c', m'))
          obtain ⟨q10, hq10, hr⟩ := bd_some hr
          refine kcall0 rfl (hk _ _ _ _ _ _ (e_X12_hearerTells (d + 0) S hs a1 a2 q10 hq10 _ ?_))
          show X (79, [some (.ref 76), some (.int a1), some (.int a2), none], [.int q10.1], st q10.2 hs, 0, 0)
          refine hX _ ?_
          clear hP hX hk P' X cal
          have hr := Option.some.inj hr
          subst hr
          refine Wp.stepsG 1 (fun cal X P' hk hX hP => ?_)
          exact hP _ _ h
def r_X12_act (S : St) (a1 : Int32) (a2 : Int32) (a3 : Int32) : Option (Int32 × St) :=
  if (r_X12_isHearer (sI S 76 59 0) a1) = 0 then
    some (0, sI S 76 59 0)
  else
    if (r_X12_in a2 0 2) = 0 then
      some (0, sI S 76 59 0)
    else
      if a2 = 0 then
        (r_X12_hearsAct (sI S 76 59 0) a1 a3).bind fun q3 =>
        some (q3.1, q3.2)
      else
        if a2 = 1 then
          (r_X12_laughsAct (sI S 76 59 0) a1 a3).bind fun q2 =>
          some (q2.1, q2.2)
        else
          (r_X12_tellsAct (sI S 76 59 0) a1 a3).bind fun q1 =>
          some (q1.1, q1.2)
set_option maxRecDepth 20000 in
set_option maxHeartbeats 4000000 in
theorem e_X12_act (d : Nat) (S : St) (hs : List Hr) (a1 : Int32) (a2 : Int32) (a3 : Int32) (v : Int32 × St) (hr : r_X12_act S a1 a2 a3 = some v) (P : Option Value → Hp → Prop) (h : P (some (.int v.1)) (st v.2 hs)) : Ev (d + 9) ix_X12_act 0 0 [.ref 76, .int a1, .int a2, .int a3] (st S hs) P := by
  refine Ev.intro (M := mi_X12_act) rfl (Nat.le_of_ble_eq_true rfl) ?_
  unfold r_X12_act at hr
  refine Wp.stepsG 6 (fun cal X P' hk hX hP => ?_)
  show kcall cal ix_X12_isHearer [.ref 76, .int a1] (st (sI S 76 59 0) hs) [] 0 0 (0, 0) (fun v σ' c' m' => X (10, [some (.ref 76), some (.int a1), some (.int a2), some (.int a3)], v.toList ++ [], σ', c', m'))
  refine kcall0 rfl (hk _ _ _ _ _ _ (e_X12_isHearer (d + 6) (sI S 76 59 0) hs a1 _ ?_))
  show X (10, [some (.ref 76), some (.int a1), some (.int a2), some (.int a3)], [.int (r_X12_isHearer (sI S 76 59 0) a1)], st (sI S 76 59 0) hs, 0, 0)
  refine hX _ ?_
  clear hP hX hk P' X cal
  refine Wp.stepsG 1 (fun cal X P' hk hX hP => ?_)
  show ((r_X12_isHearer (sI S 76 59 0) a1) = 0 → X (23, [some (.ref 76), some (.int a1), some (.int a2), some (.int a3)], [], st (sI S 76 59 0) hs, 0, 0)) ∧ (¬ (r_X12_isHearer (sI S 76 59 0) a1) = 0 → X (13, [some (.ref 76), some (.int a1), some (.int a2), some (.int a3)], [], st (sI S 76 59 0) hs, 0, 0))
  refine ⟨fun hc => hX _ ?_, fun hc => hX _ ?_⟩
  · clear hP hX hk P' X cal
    rw [if_pos hc] at hr
    have hr := Option.some.inj hr
    subst hr
    refine Wp.stepsG 2 (fun cal X P' hk hX hP => ?_)
    exact hP _ _ h
  · clear hP hX hk P' X cal
    rw [if_neg hc] at hr
    refine Wp.stepsG 5 (fun cal X P' hk hX hP => ?_)
    show kcall cal ix_X12_in [.ref 76, .int a2, .int 0, .int 2] (st (sI S 76 59 0) hs) [] 0 0 (0, 0) (fun v σ' c' m' => X (20, [some (.ref 76), some (.int a1), some (.int a2), some (.int a3)], v.toList ++ [], σ', c', m'))
    refine kcall0 rfl (hk _ _ _ _ _ _ (e_X12_in (d + 7) (sI S 76 59 0) hs a2 0 2 _ ?_))
    show X (20, [some (.ref 76), some (.int a1), some (.int a2), some (.int a3)], [.int (r_X12_in a2 0 2)], st (sI S 76 59 0) hs, 0, 0)
    refine hX _ ?_
    clear hP hX hk P' X cal
    refine Wp.stepsG 1 (fun cal X P' hk hX hP => ?_)
    show (¬ (r_X12_in a2 0 2) = 0 → X (25, [some (.ref 76), some (.int a1), some (.int a2), some (.int a3)], [], st (sI S 76 59 0) hs, 0, 0)) ∧ ((r_X12_in a2 0 2) = 0 → X (23, [some (.ref 76), some (.int a1), some (.int a2), some (.int a3)], [], st (sI S 76 59 0) hs, 0, 0))
    refine ⟨fun hc => hX _ ?_, fun hc => hX _ ?_⟩
    · clear hP hX hk P' X cal
      rw [if_neg hc] at hr
      refine Wp.stepsG 2 (fun cal X P' hk hX hP => ?_)
      show (¬ a2 = 0 → X (38, [some (.ref 76), some (.int a1), some (.int a2), some (.int a3)], [], st (sI S 76 59 0) hs, 0, 0)) ∧ (a2 = 0 → X (29, [some (.ref 76), some (.int a1), some (.int a2), some (.int a3)], [], st (sI S 76 59 0) hs, 0, 0))
      refine ⟨fun hc => hX _ ?_, fun hc => hX _ ?_⟩
      · clear hP hX hk P' X cal
        rw [if_neg hc] at hr
        refine Wp.stepsG 3 (fun cal X P' hk hX hP => ?_)
        show (¬ a2 = 1 → X (52, [some (.ref 76), some (.int a1), some (.int a2), some (.int a3)], [], st (sI S 76 59 0) hs, 0, 0)) ∧ (a2 = 1 → X (43, [some (.ref 76), some (.int a1), some (.int a2), some (.int a3)], [], st (sI S 76 59 0) hs, 0, 0))
        refine ⟨fun hc => hX _ ?_, fun hc => hX _ ?_⟩
        · clear hP hX hk P' X cal
          rw [if_neg hc] at hr
          refine Wp.stepsG 4 (fun cal X P' hk hX hP => ?_)
          show kcall cal ix_X12_tellsAct [.ref 76, .int a1, .int a3] (st (sI S 76 59 0) hs) [] 0 0 (0, 0) (fun v σ' c' m' => X (58, [some (.ref 76), some (.int a1), some (.int a2), some (.int a3)], v.toList ++ [], σ', c', m'))
          obtain ⟨q1, hq1, hr⟩ := bd_some hr
          refine kcall0 rfl (hk _ _ _ _ _ _ (e_X12_tellsAct (d + 0) (sI S 76 59 0) hs a1 a3 q1 hq1 _ ?_))
          show X (58, [some (.ref 76), some (.int a1), some (.int a2), some (.int a3)], [.int q1.1], st q1.2 hs, 0, 0)
          refine hX _ ?_
          clear hP hX hk P' X cal
          have hr := Option.some.inj hr
          subst hr
          refine Wp.stepsG 1 (fun cal X P' hk hX hP => ?_)
          exact hP _ _ h
        · clear hP hX hk P' X cal
          rw [if_pos hc] at hr
          refine Wp.stepsG 4 (fun cal X P' hk hX hP => ?_)
          show kcall cal ix_X12_laughsAct [.ref 76, .int a1, .int a3] (st (sI S 76 59 0) hs) [] 0 0 (0, 0) (fun v σ' c' m' => X (49, [some (.ref 76), some (.int a1), some (.int a2), some (.int a3)], v.toList ++ [], σ', c', m'))
          obtain ⟨q2, hq2, hr⟩ := bd_some hr
          refine kcall0 rfl (hk _ _ _ _ _ _ (e_X12_laughsAct (d + 2) (sI S 76 59 0) hs a1 a3 q2 hq2 _ ?_))
          show X (49, [some (.ref 76), some (.int a1), some (.int a2), some (.int a3)], [.int q2.1], st q2.2 hs, 0, 0)
          refine hX _ ?_
          clear hP hX hk P' X cal
          have hr := Option.some.inj hr
          subst hr
          refine Wp.stepsG 2 (fun cal X P' hk hX hP => ?_)
          exact hP _ _ h
      · clear hP hX hk P' X cal
        rw [if_pos hc] at hr
        refine Wp.stepsG 4 (fun cal X P' hk hX hP => ?_)
        show kcall cal ix_X12_hearsAct [.ref 76, .int a1, .int a3] (st (sI S 76 59 0) hs) [] 0 0 (0, 0) (fun v σ' c' m' => X (35, [some (.ref 76), some (.int a1), some (.int a2), some (.int a3)], v.toList ++ [], σ', c', m'))
        obtain ⟨q3, hq3, hr⟩ := bd_some hr
        refine kcall0 rfl (hk _ _ _ _ _ _ (e_X12_hearsAct (d + 5) (sI S 76 59 0) hs a1 a3 q3 hq3 _ ?_))
        show X (35, [some (.ref 76), some (.int a1), some (.int a2), some (.int a3)], [.int q3.1], st q3.2 hs, 0, 0)
        refine hX _ ?_
        clear hP hX hk P' X cal
        have hr := Option.some.inj hr
        subst hr
        refine Wp.stepsG 2 (fun cal X P' hk hX hP => ?_)
        exact hP _ _ h
    · clear hP hX hk P' X cal
      rw [if_pos hc] at hr
      have hr := Option.some.inj hr
      subst hr
      refine Wp.stepsG 2 (fun cal X P' hk hX hP => ?_)
      exact hP _ _ h
def r_X12_trace (S : St) (a1 : Int32) : Option Int32 :=
  if (r_X12_in a1 0 19) = 0 then
    some (-1)
  else
    if (S.1 76 59) ≤ a1 then
      some (-1)
    else
      gd (¬ (a1 < 0 ∨ 20 ≤ a1.toNatClampNeg)) (
        some ((S.1 114) a1.toNatClampNeg))
set_option maxRecDepth 20000 in
set_option maxHeartbeats 4000000 in
theorem e_X12_trace (d : Nat) (S : St) (hs : List Hr) (a1 : Int32) (v : Int32) (hr : r_X12_trace S a1 = some v) (P : Option Value → Hp → Prop) (h : P (some (.int v)) (st S hs)) : Ev (d + 2) ix_X12_trace 0 0 [.ref 76, .int a1] (st S hs) P := by
  refine Ev.intro (M := mi_X12_trace) rfl (Nat.le_of_ble_eq_true rfl) ?_
  unfold r_X12_trace at hr
  refine Wp.stepsG 5 (fun cal X P' hk hX hP => ?_)
  show kcall cal ix_X12_in [.ref 76, .int a1, .int 0, .int 19] (st S hs) [] 0 0 (0, 0) (fun v σ' c' m' => X (8, [some (.ref 76), some (.int a1)], v.toList ++ [], σ', c', m'))
  refine kcall0 rfl (hk _ _ _ _ _ _ (e_X12_in (d + 0) S hs a1 0 19 _ ?_))
  show X (8, [some (.ref 76), some (.int a1)], [.int (r_X12_in a1 0 19)], st S hs, 0, 0)
  refine hX _ ?_
  clear hP hX hk P' X cal
  refine Wp.stepsG 1 (fun cal X P' hk hX hP => ?_)
  show ((r_X12_in a1 0 19) = 0 → X (28, [some (.ref 76), some (.int a1)], [], st S hs, 0, 0)) ∧ (¬ (r_X12_in a1 0 19) = 0 → X (11, [some (.ref 76), some (.int a1)], [], st S hs, 0, 0))
  refine ⟨fun hc => hX _ ?_, fun hc => hX _ ?_⟩
  · clear hP hX hk P' X cal
    rw [if_pos hc] at hr
    have hr := Option.some.inj hr
    subst hr
    refine Wp.stepsG 2 (fun cal X P' hk hX hP => ?_)
    exact hP _ _ h
  · clear hP hX hk P' X cal
    rw [if_neg hc] at hr
    refine Wp.stepsG 4 (fun cal X P' hk hX hP => ?_)
    show ((S.1 76 59) ≤ a1 → X (28, [some (.ref 76), some (.int a1)], [], st S hs, 0, 0)) ∧ (¬ (S.1 76 59) ≤ a1 → X (19, [some (.ref 76), some (.int a1)], [], st S hs, 0, 0))
    refine ⟨fun hc => hX _ ?_, fun hc => hX _ ?_⟩
    · clear hP hX hk P' X cal
      rw [if_pos hc] at hr
      have hr := Option.some.inj hr
      subst hr
      refine Wp.stepsG 2 (fun cal X P' hk hX hP => ?_)
      exact hP _ _ h
    · clear hP hX hk P' X cal
      rw [if_neg hc] at hr
      refine Wp.stepsG 4 (fun cal X P' hk hX hP => ?_)
      show vp_in a1 20 ∧ X (25, [some (.ref 76), some (.int a1)], [.int ((S.1 114) a1.toNatClampNeg)], st S hs, 0, 0)
      obtain ⟨hg, hr⟩ := gd_some hr
      refine ⟨hg, hX _ ?_⟩
      clear hP hX hk P' X cal
      have hr := Option.some.inj hr
      subst hr
      refine Wp.stepsG 2 (fun cal X P' hk hX hP => ?_)
      exact hP _ _ h
def r_X12_taken (S : St) (a1 : Int32) (a2 : Int32) : Option Int32 :=
  if (r_X12_in a2 0 6) = 0 then
    some (-2)
  else
    if (r_X12_isHearer S a1) = 0 then
      some (-11)
    else
      gd (¬ (a1 < 0 ∨ 6 ≤ a1.toNatClampNeg)) (
        if a2 = 0 then
          some ((S.1 79) a1.toNatClampNeg)
        else
          if ((S.1 79) a1.toNatClampNeg) = a2 then
            some ((S.1 79) a1.toNatClampNeg)
          else
            if a2 = 1 then
              if ((S.1 79) a1.toNatClampNeg) = 4 then
                some ((S.1 79) a1.toNatClampNeg)
              else
                if a2 = 2 then
                  if ((S.1 79) a1.toNatClampNeg) = 5 then
                    some ((S.1 79) a1.toNatClampNeg)
                  else
                    if a2 = 3 then
                      if ((S.1 79) a1.toNatClampNeg) = 6 then
                        some ((S.1 79) a1.toNatClampNeg)
                      else
                        some (-12)
                    else
                      some (-12)
                else
                  if a2 = 3 then
                    if ((S.1 79) a1.toNatClampNeg) = 6 then
                      some ((S.1 79) a1.toNatClampNeg)
                    else
                      some (-12)
                  else
                    some (-12)
            else
              if a2 = 2 then
                if ((S.1 79) a1.toNatClampNeg) = 5 then
                  some ((S.1 79) a1.toNatClampNeg)
                else
                  if a2 = 3 then
                    if ((S.1 79) a1.toNatClampNeg) = 6 then
                      some ((S.1 79) a1.toNatClampNeg)
                    else
                      some (-12)
                  else
                    some (-12)
              else
                if a2 = 3 then
                  if ((S.1 79) a1.toNatClampNeg) = 6 then
                    some ((S.1 79) a1.toNatClampNeg)
                  else
                    some (-12)
                else
                  some (-12))
set_option maxRecDepth 20000 in
set_option maxHeartbeats 4000000 in
theorem e_X12_taken (d : Nat) (S : St) (hs : List Hr) (a1 : Int32) (a2 : Int32) (v : Int32) (hr : r_X12_taken S a1 a2 = some v) (P : Option Value → Hp → Prop) (h : P (some (.int v)) (st S hs)) : Ev (d + 3) ix_X12_taken 0 0 [.ref 76, .int a1, .int a2] (st S hs) P := by
  refine Ev.intro (M := mi_X12_taken) rfl (Nat.le_of_ble_eq_true rfl) ?_
  unfold r_X12_taken at hr
  refine Wp.stepsG 5 (fun cal X P' hk hX hP => ?_)
  show kcall cal ix_X12_in [.ref 76, .int a2, .int 0, .int 6] (st S hs) [] 0 0 (0, 0) (fun v σ' c' m' => X (8, [some (.ref 76), some (.int a1), some (.int a2), none], v.toList ++ [], σ', c', m'))
  refine kcall0 rfl (hk _ _ _ _ _ _ (e_X12_in (d + 1) S hs a2 0 6 _ ?_))
  show X (8, [some (.ref 76), some (.int a1), some (.int a2), none], [.int (r_X12_in a2 0 6)], st S hs, 0, 0)
  refine hX _ ?_
  clear hP hX hk P' X cal
  refine Wp.stepsG 1 (fun cal X P' hk hX hP => ?_)
  show (¬ (r_X12_in a2 0 6) = 0 → X (14, [some (.ref 76), some (.int a1), some (.int a2), none], [], st S hs, 0, 0)) ∧ ((r_X12_in a2 0 6) = 0 → X (11, [some (.ref 76), some (.int a1), some (.int a2), none], [], st S hs, 0, 0))
  refine ⟨fun hc => hX _ ?_, fun hc => hX _ ?_⟩
  · clear hP hX hk P' X cal
    rw [if_neg hc] at hr
    refine Wp.stepsG 3 (fun cal X P' hk hX hP => ?_)
    show kcall cal ix_X12_isHearer [.ref 76, .int a1] (st S hs) [] 0 0 (0, 0) (fun v σ' c' m' => X (19, [some (.ref 76), some (.int a1), some (.int a2), none], v.toList ++ [], σ', c', m'))
    refine kcall0 rfl (hk _ _ _ _ _ _ (e_X12_isHearer (d + 0) S hs a1 _ ?_))
    show X (19, [some (.ref 76), some (.int a1), some (.int a2), none], [.int (r_X12_isHearer S a1)], st S hs, 0, 0)
    refine hX _ ?_
    clear hP hX hk P' X cal
    refine Wp.stepsG 1 (fun cal X P' hk hX hP => ?_)
    show (¬ (r_X12_isHearer S a1) = 0 → X (25, [some (.ref 76), some (.int a1), some (.int a2), none], [], st S hs, 0, 0)) ∧ ((r_X12_isHearer S a1) = 0 → X (22, [some (.ref 76), some (.int a1), some (.int a2), none], [], st S hs, 0, 0))
    refine ⟨fun hc => hX _ ?_, fun hc => hX _ ?_⟩
    · clear hP hX hk P' X cal
      rw [if_neg hc] at hr
      refine Wp.stepsG 4 (fun cal X P' hk hX hP => ?_)
      show vp_in a1 6 ∧ X (31, [some (.ref 76), some (.int a1), some (.int a2), none], [.int ((S.1 79) a1.toNatClampNeg)], st S hs, 0, 0)
      obtain ⟨hg, hr⟩ := gd_some hr
      refine ⟨hg, hX _ ?_⟩
      clear hP hX hk P' X cal
      refine Wp.stepsG 3 (fun cal X P' hk hX hP => ?_)
      show (a2 = 0 → X (72, [some (.ref 76), some (.int a1), some (.int a2), some (.int ((S.1 79) a1.toNatClampNeg))], [], st S hs, 0, 0)) ∧ (¬ a2 = 0 → X (36, [some (.ref 76), some (.int a1), some (.int a2), some (.int ((S.1 79) a1.toNatClampNeg))], [], st S hs, 0, 0))
      refine ⟨fun hc => hX _ ?_, fun hc => hX _ ?_⟩
      · clear hP hX hk P' X cal
        rw [if_pos hc] at hr
        have hr := Option.some.inj hr
        subst hr
        refine Wp.stepsG 3 (fun cal X P' hk hX hP => ?_)
        exact hP _ _ h
      · clear hP hX hk P' X cal
        rw [if_neg hc] at hr
        refine Wp.stepsG 3 (fun cal X P' hk hX hP => ?_)
        show (((S.1 79) a1.toNatClampNeg) = a2 → X (72, [some (.ref 76), some (.int a1), some (.int a2), some (.int ((S.1 79) a1.toNatClampNeg))], [], st S hs, 0, 0)) ∧ (¬ ((S.1 79) a1.toNatClampNeg) = a2 → X (41, [some (.ref 76), some (.int a1), some (.int a2), some (.int ((S.1 79) a1.toNatClampNeg))], [], st S hs, 0, 0))
        refine ⟨fun hc => hX _ ?_, fun hc => hX _ ?_⟩
        · clear hP hX hk P' X cal
          rw [if_pos hc] at hr
          have hr := Option.some.inj hr
          subst hr
          refine Wp.stepsG 3 (fun cal X P' hk hX hP => ?_)
          exact hP _ _ h
        · clear hP hX hk P' X cal
          rw [if_neg hc] at hr
          refine Wp.stepsG 3 (fun cal X P' hk hX hP => ?_)
          show (¬ a2 = 1 → X (51, [some (.ref 76), some (.int a1), some (.int a2), some (.int ((S.1 79) a1.toNatClampNeg))], [], st S hs, 0, 0)) ∧ (a2 = 1 → X (46, [some (.ref 76), some (.int a1), some (.int a2), some (.int ((S.1 79) a1.toNatClampNeg))], [], st S hs, 0, 0))
          refine ⟨fun hc => hX _ ?_, fun hc => hX _ ?_⟩
          · clear hP hX hk P' X cal
            rw [if_neg hc] at hr
            refine Wp.stepsG 3 (fun cal X P' hk hX hP => ?_)
            show (¬ a2 = 2 → X (61, [some (.ref 76), some (.int a1), some (.int a2), some (.int ((S.1 79) a1.toNatClampNeg))], [], st S hs, 0, 0)) ∧ (a2 = 2 → X (56, [some (.ref 76), some (.int a1), some (.int a2), some (.int ((S.1 79) a1.toNatClampNeg))], [], st S hs, 0, 0))
            refine ⟨fun hc => hX _ ?_, fun hc => hX _ ?_⟩
            · clear hP hX hk P' X cal
              rw [if_neg hc] at hr
              refine Wp.stepsG 3 (fun cal X P' hk hX hP => ?_)
              show (¬ a2 = 3 → X (76, [some (.ref 76), some (.int a1), some (.int a2), some (.int ((S.1 79) a1.toNatClampNeg))], [], st S hs, 0, 0)) ∧ (a2 = 3 → X (66, [some (.ref 76), some (.int a1), some (.int a2), some (.int ((S.1 79) a1.toNatClampNeg))], [], st S hs, 0, 0))
              refine ⟨fun hc => hX _ ?_, fun hc => hX _ ?_⟩
              · clear hP hX hk P' X cal
                rw [if_neg hc] at hr
                have hr := Option.some.inj hr
                subst hr
                refine Wp.stepsG 2 (fun cal X P' hk hX hP => ?_)
                exact hP _ _ h
              · clear hP hX hk P' X cal
                rw [if_pos hc] at hr
                refine Wp.stepsG 3 (fun cal X P' hk hX hP => ?_)
                show (¬ ((S.1 79) a1.toNatClampNeg) = 6 → X (76, [some (.ref 76), some (.int a1), some (.int a2), some (.int ((S.1 79) a1.toNatClampNeg))], [], st S hs, 0, 0)) ∧ (((S.1 79) a1.toNatClampNeg) = 6 → X (72, [some (.ref 76), some (.int a1), some (.int a2), some (.int ((S.1 79) a1.toNatClampNeg))], [], st S hs, 0, 0))
                refine ⟨fun hc => hX _ ?_, fun hc => hX _ ?_⟩
                · clear hP hX hk P' X cal
                  rw [if_neg hc] at hr
                  have hr := Option.some.inj hr
                  subst hr
                  refine Wp.stepsG 2 (fun cal X P' hk hX hP => ?_)
                  exact hP _ _ h
                · clear hP hX hk P' X cal
                  rw [if_pos hc] at hr
                  have hr := Option.some.inj hr
                  subst hr
                  refine Wp.stepsG 3 (fun cal X P' hk hX hP => ?_)
                  exact hP _ _ h
            · clear hP hX hk P' X cal
              rw [if_pos hc] at hr
              refine Wp.stepsG 3 (fun cal X P' hk hX hP => ?_)
              show (((S.1 79) a1.toNatClampNeg) = 5 → X (72, [some (.ref 76), some (.int a1), some (.int a2), some (.int ((S.1 79) a1.toNatClampNeg))], [], st S hs, 0, 0)) ∧ (¬ ((S.1 79) a1.toNatClampNeg) = 5 → X (61, [some (.ref 76), some (.int a1), some (.int a2), some (.int ((S.1 79) a1.toNatClampNeg))], [], st S hs, 0, 0))
              refine ⟨fun hc => hX _ ?_, fun hc => hX _ ?_⟩
              · clear hP hX hk P' X cal
                rw [if_pos hc] at hr
                have hr := Option.some.inj hr
                subst hr
                refine Wp.stepsG 3 (fun cal X P' hk hX hP => ?_)
                exact hP _ _ h
              · clear hP hX hk P' X cal
                rw [if_neg hc] at hr
                refine Wp.stepsG 3 (fun cal X P' hk hX hP => ?_)
                show (¬ a2 = 3 → X (76, [some (.ref 76), some (.int a1), some (.int a2), some (.int ((S.1 79) a1.toNatClampNeg))], [], st S hs, 0, 0)) ∧ (a2 = 3 → X (66, [some (.ref 76), some (.int a1), some (.int a2), some (.int ((S.1 79) a1.toNatClampNeg))], [], st S hs, 0, 0))
                refine ⟨fun hc => hX _ ?_, fun hc => hX _ ?_⟩
                · clear hP hX hk P' X cal
                  rw [if_neg hc] at hr
                  have hr := Option.some.inj hr
                  subst hr
                  refine Wp.stepsG 2 (fun cal X P' hk hX hP => ?_)
                  exact hP _ _ h
                · clear hP hX hk P' X cal
                  rw [if_pos hc] at hr
                  refine Wp.stepsG 3 (fun cal X P' hk hX hP => ?_)
                  show (¬ ((S.1 79) a1.toNatClampNeg) = 6 → X (76, [some (.ref 76), some (.int a1), some (.int a2), some (.int ((S.1 79) a1.toNatClampNeg))], [], st S hs, 0, 0)) ∧ (((S.1 79) a1.toNatClampNeg) = 6 → X (72, [some (.ref 76), some (.int a1), some (.int a2), some (.int ((S.1 79) a1.toNatClampNeg))], [], st S hs, 0, 0))
                  refine ⟨fun hc => hX _ ?_, fun hc => hX _ ?_⟩
                  · clear hP hX hk P' X cal
                    rw [if_neg hc] at hr
                    have hr := Option.some.inj hr
                    subst hr
                    refine Wp.stepsG 2 (fun cal X P' hk hX hP => ?_)
                    exact hP _ _ h
                  · clear hP hX hk P' X cal
                    rw [if_pos hc] at hr
                    have hr := Option.some.inj hr
                    subst hr
                    refine Wp.stepsG 3 (fun cal X P' hk hX hP => ?_)
                    exact hP _ _ h
          · clear hP hX hk P' X cal
            rw [if_pos hc] at hr
            refine Wp.stepsG 3 (fun cal X P' hk hX hP => ?_)
            show (((S.1 79) a1.toNatClampNeg) = 4 → X (72, [some (.ref 76), some (.int a1), some (.int a2), some (.int ((S.1 79) a1.toNatClampNeg))], [], st S hs, 0, 0)) ∧ (¬ ((S.1 79) a1.toNatClampNeg) = 4 → X (51, [some (.ref 76), some (.int a1), some (.int a2), some (.int ((S.1 79) a1.toNatClampNeg))], [], st S hs, 0, 0))
            refine ⟨fun hc => hX _ ?_, fun hc => hX _ ?_⟩
            · clear hP hX hk P' X cal
              rw [if_pos hc] at hr
              have hr := Option.some.inj hr
              subst hr
              refine Wp.stepsG 3 (fun cal X P' hk hX hP => ?_)
              exact hP _ _ h
            · clear hP hX hk P' X cal
              rw [if_neg hc] at hr
              refine Wp.stepsG 3 (fun cal X P' hk hX hP => ?_)
              show (¬ a2 = 2 → X (61, [some (.ref 76), some (.int a1), some (.int a2), some (.int ((S.1 79) a1.toNatClampNeg))], [], st S hs, 0, 0)) ∧ (a2 = 2 → X (56, [some (.ref 76), some (.int a1), some (.int a2), some (.int ((S.1 79) a1.toNatClampNeg))], [], st S hs, 0, 0))
              refine ⟨fun hc => hX _ ?_, fun hc => hX _ ?_⟩
              · clear hP hX hk P' X cal
                rw [if_neg hc] at hr
                refine Wp.stepsG 3 (fun cal X P' hk hX hP => ?_)
                show (¬ a2 = 3 → X (76, [some (.ref 76), some (.int a1), some (.int a2), some (.int ((S.1 79) a1.toNatClampNeg))], [], st S hs, 0, 0)) ∧ (a2 = 3 → X (66, [some (.ref 76), some (.int a1), some (.int a2), some (.int ((S.1 79) a1.toNatClampNeg))], [], st S hs, 0, 0))
                refine ⟨fun hc => hX _ ?_, fun hc => hX _ ?_⟩
                · clear hP hX hk P' X cal
                  rw [if_neg hc] at hr
                  have hr := Option.some.inj hr
                  subst hr
                  refine Wp.stepsG 2 (fun cal X P' hk hX hP => ?_)
                  exact hP _ _ h
                · clear hP hX hk P' X cal
                  rw [if_pos hc] at hr
                  refine Wp.stepsG 3 (fun cal X P' hk hX hP => ?_)
                  show (¬ ((S.1 79) a1.toNatClampNeg) = 6 → X (76, [some (.ref 76), some (.int a1), some (.int a2), some (.int ((S.1 79) a1.toNatClampNeg))], [], st S hs, 0, 0)) ∧ (((S.1 79) a1.toNatClampNeg) = 6 → X (72, [some (.ref 76), some (.int a1), some (.int a2), some (.int ((S.1 79) a1.toNatClampNeg))], [], st S hs, 0, 0))
                  refine ⟨fun hc => hX _ ?_, fun hc => hX _ ?_⟩
                  · clear hP hX hk P' X cal
                    rw [if_neg hc] at hr
                    have hr := Option.some.inj hr
                    subst hr
                    refine Wp.stepsG 2 (fun cal X P' hk hX hP => ?_)
                    exact hP _ _ h
                  · clear hP hX hk P' X cal
                    rw [if_pos hc] at hr
                    have hr := Option.some.inj hr
                    subst hr
                    refine Wp.stepsG 3 (fun cal X P' hk hX hP => ?_)
                    exact hP _ _ h
              · clear hP hX hk P' X cal
                rw [if_pos hc] at hr
                refine Wp.stepsG 3 (fun cal X P' hk hX hP => ?_)
                show (((S.1 79) a1.toNatClampNeg) = 5 → X (72, [some (.ref 76), some (.int a1), some (.int a2), some (.int ((S.1 79) a1.toNatClampNeg))], [], st S hs, 0, 0)) ∧ (¬ ((S.1 79) a1.toNatClampNeg) = 5 → X (61, [some (.ref 76), some (.int a1), some (.int a2), some (.int ((S.1 79) a1.toNatClampNeg))], [], st S hs, 0, 0))
                refine ⟨fun hc => hX _ ?_, fun hc => hX _ ?_⟩
                · clear hP hX hk P' X cal
                  rw [if_pos hc] at hr
                  have hr := Option.some.inj hr
                  subst hr
                  refine Wp.stepsG 3 (fun cal X P' hk hX hP => ?_)
                  exact hP _ _ h
                · clear hP hX hk P' X cal
                  rw [if_neg hc] at hr
                  refine Wp.stepsG 3 (fun cal X P' hk hX hP => ?_)
                  show (¬ a2 = 3 → X (76, [some (.ref 76), some (.int a1), some (.int a2), some (.int ((S.1 79) a1.toNatClampNeg))], [], st S hs, 0, 0)) ∧ (a2 = 3 → X (66, [some (.ref 76), some (.int a1), some (.int a2), some (.int ((S.1 79) a1.toNatClampNeg))], [], st S hs, 0, 0))
                  refine ⟨fun hc => hX _ ?_, fun hc => hX _ ?_⟩
                  · clear hP hX hk P' X cal
                    rw [if_neg hc] at hr
                    have hr := Option.some.inj hr
                    subst hr
                    refine Wp.stepsG 2 (fun cal X P' hk hX hP => ?_)
                    exact hP _ _ h
                  · clear hP hX hk P' X cal
                    rw [if_pos hc] at hr
                    refine Wp.stepsG 3 (fun cal X P' hk hX hP => ?_)
                    show (¬ ((S.1 79) a1.toNatClampNeg) = 6 → X (76, [some (.ref 76), some (.int a1), some (.int a2), some (.int ((S.1 79) a1.toNatClampNeg))], [], st S hs, 0, 0)) ∧ (((S.1 79) a1.toNatClampNeg) = 6 → X (72, [some (.ref 76), some (.int a1), some (.int a2), some (.int ((S.1 79) a1.toNatClampNeg))], [], st S hs, 0, 0))
                    refine ⟨fun hc => hX _ ?_, fun hc => hX _ ?_⟩
                    · clear hP hX hk P' X cal
                      rw [if_neg hc] at hr
                      have hr := Option.some.inj hr
                      subst hr
                      refine Wp.stepsG 2 (fun cal X P' hk hX hP => ?_)
                      exact hP _ _ h
                    · clear hP hX hk P' X cal
                      rw [if_pos hc] at hr
                      have hr := Option.some.inj hr
                      subst hr
                      refine Wp.stepsG 3 (fun cal X P' hk hX hP => ?_)
                      exact hP _ _ h
    · clear hP hX hk P' X cal
      rw [if_pos hc] at hr
      have hr := Option.some.inj hr
      subst hr
      refine Wp.stepsG 2 (fun cal X P' hk hX hP => ?_)
      exact hP _ _ h
  · clear hP hX hk P' X cal
    rw [if_pos hc] at hr
    have hr := Option.some.inj hr
    subst hr
    refine Wp.stepsG 2 (fun cal X P' hk hX hP => ?_)
    exact hP _ _ h
def r_X12_count (S : St) (a1 : Int32) : Int32 :=
  if a1 = 0 then
    S.1 76 1
  else
  if a1 = 1 then
    S.1 76 0
  else
  if a1 = 2 then
    S.1 76 10
  else
  if a1 = 3 then
    S.1 76 37
  else
  if a1 = 4 then
    S.1 76 40
  else
  if a1 = 5 then
    S.1 76 12
  else
  if a1 = 6 then
    S.1 76 59
  else
    (-2)
set_option maxRecDepth 20000 in
set_option maxHeartbeats 4000000 in
theorem e_X12_count (d : Nat) (S : St) (hs : List Hr) (a1 : Int32) (P : Option Value → Hp → Prop) (h : P (some (.int (r_X12_count S a1))) (st S hs)) : Ev (d + 1) ix_X12_count 0 0 [.ref 76, .int a1] (st S hs) P := by
  refine Ev.intro (M := mi_X12_count) rfl (Nat.le_of_ble_eq_true rfl) ?_
  unfold r_X12_count at h
  refine Wp.stepsG 2 (fun cal X P' hk hX hP => ?_)
  show (a1 = 0 → X (44, [some (.ref 76), some (.int a1)], [], st S hs, 0, 0)) ∧ (¬ a1 = 0 → (a1 = 1 → X (49, [some (.ref 76), some (.int a1)], [], st S hs, 0, 0)) ∧ (¬ a1 = 1 → (a1 = 2 → X (54, [some (.ref 76), some (.int a1)], [], st S hs, 0, 0)) ∧ (¬ a1 = 2 → (a1 = 3 → X (59, [some (.ref 76), some (.int a1)], [], st S hs, 0, 0)) ∧ (¬ a1 = 3 → (a1 = 4 → X (64, [some (.ref 76), some (.int a1)], [], st S hs, 0, 0)) ∧ (¬ a1 = 4 → (a1 = 5 → X (69, [some (.ref 76), some (.int a1)], [], st S hs, 0, 0)) ∧ (¬ a1 = 5 → (a1 = 6 → X (74, [some (.ref 76), some (.int a1)], [], st S hs, 0, 0)) ∧ (¬ a1 = 6 → X (79, [some (.ref 76), some (.int a1)], [], st S hs, 0, 0))))))))
  refine ⟨fun hc => hX _ ?_, fun hc => ?_⟩
  · clear hP hX hk P' X cal
    rw [if_pos hc] at h
    refine Wp.stepsG 3 (fun cal X P' hk hX hP => ?_)
    exact hP _ _ h
  · rw [if_neg hc] at h
    refine ⟨fun hc => hX _ ?_, fun hc => ?_⟩
    · clear hP hX hk P' X cal
      rw [if_pos hc] at h
      refine Wp.stepsG 3 (fun cal X P' hk hX hP => ?_)
      exact hP _ _ h
    · rw [if_neg hc] at h
      refine ⟨fun hc => hX _ ?_, fun hc => ?_⟩
      · clear hP hX hk P' X cal
        rw [if_pos hc] at h
        refine Wp.stepsG 3 (fun cal X P' hk hX hP => ?_)
        exact hP _ _ h
      · rw [if_neg hc] at h
        refine ⟨fun hc => hX _ ?_, fun hc => ?_⟩
        · clear hP hX hk P' X cal
          rw [if_pos hc] at h
          refine Wp.stepsG 3 (fun cal X P' hk hX hP => ?_)
          exact hP _ _ h
        · rw [if_neg hc] at h
          refine ⟨fun hc => hX _ ?_, fun hc => ?_⟩
          · clear hP hX hk P' X cal
            rw [if_pos hc] at h
            refine Wp.stepsG 3 (fun cal X P' hk hX hP => ?_)
            exact hP _ _ h
          · rw [if_neg hc] at h
            refine ⟨fun hc => hX _ ?_, fun hc => ?_⟩
            · clear hP hX hk P' X cal
              rw [if_pos hc] at h
              refine Wp.stepsG 3 (fun cal X P' hk hX hP => ?_)
              exact hP _ _ h
            · rw [if_neg hc] at h
              refine ⟨fun hc => hX _ ?_, fun hc => hX _ ?_⟩
              · clear hP hX hk P' X cal
                rw [if_pos hc] at h
                refine Wp.stepsG 3 (fun cal X P' hk hX hP => ?_)
                exact hP _ _ h
              · rw [if_neg hc] at h
                clear hP hX hk P' X cal
                refine Wp.stepsG 2 (fun cal X P' hk hX hP => ?_)
                exact hP _ _ h
