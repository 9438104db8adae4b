def lp_X11_coffee_53 (S : St) (hs : List Hr) (f2 : Int32) : Nat → Int32 → Int32 → Int32 → Option (Int32)
  | 0, _, _, _ => none
  | n + 1, v3, v4, v5 =>
    if 8 ≤ v5 then
      some v3
    else
      if v4 < 0 then
        some v3
      else
        gd (¬ (v4 < 0 ∨ 8 ≤ v4.toNatClampNeg)) (
          if ((S.1 34) v4.toNatClampNeg) ≤ 0 then
            some v3
          else
            (r_X11_bestBeside S (v3 ||| ((1 : Int32) <<< (v4 &&& 31)))).bind fun q3 =>
            lp_X11_coffee_53 S hs f2 n (v3 ||| ((1 : Int32) <<< (v4 &&& 31))) q3 (v5 + 1))
set_option maxRecDepth 20000 in
set_option maxHeartbeats 4000000 in
theorem e_lp_X11_coffee_53 (d : Nat) (hs : List Hr) (P : Option Value → Hp → Prop) (S : St) (f2 : Int32) : ∀ (n : Nat) (v3 : Int32) (v4 : Int32) (v5 : Int32) (q : Int32), lp_X11_coffee_53 S hs f2 n v3 v4 v5 = some q → (WM mi_X11_coffee (d + 7) P 95 [some (.ref 7), none, some (.int f2), some (.int q), none, none] [] (st S hs)) → WM mi_X11_coffee (d + 7) P 53 [some (.ref 7), none, some (.int f2), some (.int v3), some (.int v4), some (.int v5)] [] (st S hs) := by
  intro n
  induction n with
  | zero =>
    intro v3 v4 v5 q hl
    cases hl
  | succ n ih =>
    intro v3 v4 v5 q hl ct
    rw [lp_X11_coffee_53] at hl
    refine Wp.stepsG 3 (fun cal X P' hk hX hP => ?_)
    show (8 ≤ v5 → X (95, [some (.ref 7), none, some (.int f2), some (.int v3), some (.int v4), some (.int v5)], [], st S hs, 0, 0)) ∧ (¬ 8 ≤ v5 → X (60, [some (.ref 7), none, some (.int f2), some (.int v3), some (.int v4), some (.int v5)], [], st S hs, 0, 0))
    refine ⟨fun hc => hX _ ?_, fun hc => hX _ ?_⟩
    · clear hP hX hk P' X cal
      rw [if_pos hc] at hl
      have hl := Option.some.inj hl
      subst hl
      exact Wp.weak (leL.k (leL.k (leL.k (leL.k (leL.n (leL.n leL.z)))))) (ct)
    · clear hP hX hk P' X cal
      rw [if_neg hc] at hl
      refine Wp.stepsG 2 (fun cal X P' hk hX hP => ?_)
      show (v4 < 0 → X (95, [some (.ref 7), none, some (.int f2), some (.int v3), some (.int v4), some (.int v5)], [], st S hs, 0, 0)) ∧ (¬ v4 < 0 → X (65, [some (.ref 7), none, some (.int f2), some (.int v3), some (.int v4), some (.int v5)], [], st S hs, 0, 0))
      refine ⟨fun hc => hX _ ?_, fun hc => hX _ ?_⟩
      · clear hP hX hk P' X cal
        rw [if_pos hc] at hl
        have hl := Option.some.inj hl
        subst hl
        exact Wp.weak (leL.k (leL.k (leL.k (leL.k (leL.n (leL.n leL.z)))))) (ct)
      · clear hP hX hk P' X cal
        rw [if_neg hc] at hl
        refine Wp.stepsG 4 (fun cal X P' hk hX hP => ?_)
        show vp_in v4 8 ∧ X (72, [some (.ref 7), none, some (.int f2), some (.int v3), some (.int v4), some (.int v5)], [.int ((S.1 34) v4.toNatClampNeg)], st S hs, 0, 0)
        obtain ⟨hg, hl⟩ := gd_some hl
        refine ⟨hg, hX _ ?_⟩
        clear hP hX hk P' X cal
        refine Wp.stepsG 1 (fun cal X P' hk hX hP => ?_)
        show (((S.1 34) v4.toNatClampNeg) ≤ 0 → X (95, [some (.ref 7), none, some (.int f2), some (.int v3), some (.int v4), some (.int v5)], [], st S hs, 0, 0)) ∧ (¬ ((S.1 34) v4.toNatClampNeg) ≤ 0 → X (75, [some (.ref 7), none, some (.int f2), some (.int v3), some (.int v4), some (.int v5)], [], st S hs, 0, 0))
        refine ⟨fun hc => hX _ ?_, fun hc => hX _ ?_⟩
        · clear hP hX hk P' X cal
          rw [if_pos hc] at hl
          have hl := Option.some.inj hl
          subst hl
          exact Wp.weak (leL.k (leL.k (leL.k (leL.k (leL.n (leL.n leL.z)))))) (ct)
        · clear hP hX hk P' X cal
          rw [if_neg hc] at hl
          refine Wp.stepsG 9 (fun cal X P' hk hX hP => ?_)
          show kcall cal ix_X11_bestBeside [.ref 7, .int (v3 ||| ((1 : Int32) <<< (v4 &&& 31)))] (st S hs) [] 0 0 (0, 0) (fun v σ' c' m' => X (87, [some (.ref 7), none, some (.int f2), some (.int (v3 ||| ((1 : Int32) <<< (v4 &&& 31)))), some (.int v4), some (.int v5)], v.toList ++ [], σ', c', m'))
          obtain ⟨q3, hq3, hl⟩ := bd_some hl
          refine kcall0 rfl (hk _ _ _ _ _ _ (e_X11_bestBeside (d + 5) S hs (v3 ||| ((1 : Int32) <<< (v4 &&& 31))) q3 hq3 _ ?_))
          show X (87, [some (.ref 7), none, some (.int f2), some (.int (v3 ||| ((1 : Int32) <<< (v4 &&& 31)))), some (.int v4), some (.int v5)], [.int q3], st S hs, 0, 0)
          refine hX _ ?_
          clear hP hX hk P' X cal
          refine Wp.stepsG 3 (fun cal X P' hk hX hP => ?_)
          show X (53, [some (.ref 7), none, some (.int f2), some (.int (v3 ||| ((1 : Int32) <<< (v4 &&& 31)))), some (.int q3), some (.int (v5 + 1))], [], st S hs, 0, 0)
          refine hX _ ?_
          exact (ih (v3 ||| ((1 : Int32) <<< (v4 &&& 31))) q3 (v5 + 1) q hl ct)
def r_X11_coffee (S : St) (hs : List Hr) (a1 : Int32) (a2 : Int32) : Option (Int32 × St) :=
  if (r_X11_within a2 0 1) = 0 then
    some ((-10001), S)
  else
    if (r_X11_isTable S a1) = 0 then
      some ((-10002), S)
    else
      (r_X11_weigh_34 S hs a1 (S.1 8 0)).bind fun q1 =>
      (r_X11_bestBeside q1.2 0).bind fun q2 =>
      (lp_X11_coffee_53 q1.2 hs a2 4000 0 q2 0).bind fun q4 =>
        if a2 = 0 then
          some (r_J6_bitCount_0f7a4 q4, q1.2)
        else
          (r_X11_sumOf_34 q1.2 q4).bind fun q5 =>
          some (q5, q1.2)
set_option maxRecDepth 20000 in
set_option maxHeartbeats 4000000 in
theorem e_X11_coffee (d : Nat) (S : St) (hs : List Hr) (a1 : Int32) (a2 : Int32) (v : Int32 × St) (hr : r_X11_coffee S hs a1 a2 = some v) (P : Option Value → Hp → Prop) (h : P (some (.int v.1)) (st v.2 hs)) : Ev (d + 8) ix_X11_coffee 0 0 [.ref 7, .int a1, .int a2] (st S hs) P := by
  refine Ev.intro (M := mi_X11_coffee) rfl (Nat.le_of_ble_eq_true rfl) ?_
  unfold r_X11_coffee at hr
  refine Wp.stepsG 4 (fun cal X P' hk hX hP => ?_)
  show kcall cal ix_X11_within [.int a2, .int 0, .int 1] (st S hs) [] 0 0 (0, 0) (fun v σ' c' m' => X (6, [some (.ref 7), some (.int a1), some (.int a2), none, none, none], v.toList ++ [], σ', c', m'))
  refine kcall0 rfl (hk _ _ _ _ _ _ (e_X11_within (d + 6) S hs a2 0 1 _ ?_))
  show X (6, [some (.ref 7), some (.int a1), some (.int a2), none, none, none], [.int (r_X11_within a2 0 1)], st S hs, 0, 0)
  refine hX _ ?_
  clear hP hX hk P' X cal
  refine Wp.stepsG 1 (fun cal X P' hk hX hP => ?_)
  show (¬ (r_X11_within a2 0 1) = 0 → X (13, [some (.ref 7), some (.int a1), some (.int a2), none, none, none], [], st S hs, 0, 0)) ∧ ((r_X11_within a2 0 1) = 0 → X (9, [some (.ref 7), some (.int a1), some (.int a2), none, none, none], [], st S hs, 0, 0))
  refine ⟨fun hc => hX _ ?_, fun hc => hX _ ?_⟩
  · clear hP hX hk P' X cal
    rw [if_neg hc] at hr
    refine Wp.stepsG 3 (fun cal X P' hk hX hP => ?_)
    show kcall cal ix_X11_isTable [.ref 7, .int a1] (st S hs) [] 0 0 (0, 0) (fun v σ' c' m' => X (18, [some (.ref 7), some (.int a1), some (.int a2), none, none, none], v.toList ++ [], σ', c', m'))
    refine kcall0 rfl (hk _ _ _ _ _ _ (e_X11_isTable (d + 5) S hs a1 _ ?_))
    show X (18, [some (.ref 7), some (.int a1), some (.int a2), none, none, none], [.int (r_X11_isTable S a1)], st S hs, 0, 0)
    refine hX _ ?_
    clear hP hX hk P' X cal
    refine Wp.stepsG 1 (fun cal X P' hk hX hP => ?_)
    show (¬ (r_X11_isTable S a1) = 0 → X (25, [some (.ref 7), some (.int a1), some (.int a2), none, none, none], [], st S hs, 0, 0)) ∧ ((r_X11_isTable S a1) = 0 → X (21, [some (.ref 7), some (.int a1), some (.int a2), none, none, none], [], st S hs, 0, 0))
    refine ⟨fun hc => hX _ ?_, fun hc => hX _ ?_⟩
    · clear hP hX hk P' X cal
      rw [if_neg hc] at hr
      refine Wp.stepsG 8 (fun cal X P' hk hX hP => ?_)
      show kcall cal ix_X11_weigh [.ref 7, .ref 34, .int a1, .int (S.1 8 0)] (st S hs) [] 0 0 (0, 0) (fun v σ' c' m' => X (41, [some (.ref 7), some (.int a1), some (.int a2), none, none, none], v.toList ++ [], σ', c', m'))
      obtain ⟨q1, hq1, hr⟩ := bd_some hr
      refine kcall0 rfl (hk _ _ _ _ _ _ (e_X11_weigh_34 (d + 0) S hs a1 (S.1 8 0) q1 hq1 _ ?_))
      show X (41, [some (.ref 7), some (.int a1), some (.int a2), none, none, none], [], st q1.2 hs, 0, 0)
      refine hX _ ?_
      clear hP hX hk P' X cal
      refine Wp.stepsG 5 (fun cal X P' hk hX hP => ?_)
      show kcall cal ix_X11_bestBeside [.ref 7, .int 0] (st q1.2 hs) [] 0 0 (0, 0) (fun v σ' c' m' => X (48, [some (.ref 7), some (.int a1), some (.int a2), some (.int 0), none, none], v.toList ++ [], σ', c', m'))
      obtain ⟨q2, hq2, hr⟩ := bd_some hr
      refine kcall0 rfl (hk _ _ _ _ _ _ (e_X11_bestBeside (d + 5) q1.2 hs 0 q2 hq2 _ ?_))
      show X (48, [some (.ref 7), some (.int a1), some (.int a2), some (.int 0), none, none], [.int q2], st q1.2 hs, 0, 0)
      refine hX _ ?_
      clear hP hX hk P' X cal
      refine Wp.stepsG 3 (fun cal X P' hk hX hP => ?_)
      show X (53, [some (.ref 7), some (.int a1), some (.int a2), some (.int 0), some (.int q2), some (.int 0)], [], st q1.2 hs, 0, 0)
      refine hX _ ?_
      clear hP hX hk P' X cal
      obtain ⟨q4, hq4, hr⟩ := bd_some hr
      refine Wp.weak (leL.k (leL.n (leL.k (leL.k (leL.k (leL.k leL.z)))))) (e_lp_X11_coffee_53 d hs P q1.2 a2 _ 0 q2 0 q4 hq4 ?_)
      refine Wp.stepsG 2 (fun cal X P' hk hX hP => ?_)
      show (¬ a2 = 0 → X (106, [some (.ref 7), none, some (.int a2), some (.int q4), none, none], [], st q1.2 hs, 0, 0)) ∧ (a2 = 0 → X (99, [some (.ref 7), none, some (.int a2), some (.int q4), none, none], [], st q1.2 hs, 0, 0))
      refine ⟨fun hc => hX _ ?_, fun hc => hX _ ?_⟩
      · clear hP hX hk P' X cal
        rw [if_neg hc] at hr
        refine Wp.stepsG 4 (fun cal X P' hk hX hP => ?_)
        show kcall cal ix_X11_sumOf [.ref 34, .int q4] (st q1.2 hs) [] 0 0 (0, 0) (fun v σ' c' m' => X (114, [some (.ref 7), none, some (.int a2), some (.int q4), none, none], v.toList ++ [], σ', c', m'))
        obtain ⟨q5, hq5, hr⟩ := bd_some hr
        refine kcall0 rfl (hk _ _ _ _ _ _ (e_X11_sumOf_34 (d + 5) q1.2 hs q4 q5 hq5 _ ?_))
        show X (114, [some (.ref 7), none, some (.int a2), some (.int q4), none, none], [.int q5], st q1.2 hs, 0, 0)
        refine hX _ ?_
        clear hP hX hk P' X cal
        have hr := Option.some.inj hr
        subst hr
        refine Wp.stepsG 1 (fun cal X P' hk hX hP => ?_)
        exact hP _ _ h
      · clear hP hX hk P' X cal
        rw [if_pos hc] at hr
        refine Wp.stepsG 2 (fun cal X P' hk hX hP => ?_)
        show kcall cal ix_J6_bitCount_0f7a4 [.int q4] (st q1.2 hs) [] 0 0 (0, 0) (fun v σ' c' m' => X (103, [some (.ref 7), none, some (.int a2), some (.int q4), none, none], v.toList ++ [], σ', c', m'))
        refine kcall0 rfl (hk _ _ _ _ _ _ (e_J6_bitCount_0f7a4 (d + 6) q1.2 hs q4 _ ?_))
        show X (103, [some (.ref 7), none, some (.int a2), some (.int q4), none, none], [.int (r_J6_bitCount_0f7a4 q4)], st q1.2 hs, 0, 0)
        refine hX _ ?_
        clear hP hX hk P' X cal
        have hr := Option.some.inj hr
        subst hr
        refine Wp.stepsG 2 (fun cal X P' hk hX hP => ?_)
        exact hP _ _ h
    · clear hP hX hk P' X cal
      rw [if_pos hc] at hr
      have hr := Option.some.inj hr
      subst hr
      refine Wp.stepsG 2 (fun cal X P' hk hX hP => ?_)
      exact hP _ _ h
  · clear hP hX hk P' X cal
    rw [if_pos hc] at hr
    have hr := Option.some.inj hr
    subst hr
    refine Wp.stepsG 2 (fun cal X P' hk hX hP => ?_)
    exact hP _ _ h
def lp_X11_weigh_35_3 (hs : List Hr) (f2 : Int32) (f3 : Int32) : Nat → Int32 → St → Option (St)
  | 0, _, _ => none
  | n + 1, v4, S =>
    if (S.1 8 2) ≤ v4 then
      some S
    else
      if 8 ≤ v4 then
        some S
      else
        (r_X11_laughterThen S hs v4 f2 f3 0 0).bind fun q1 =>
        gd (¬ (v4 < 0 ∨ 8 ≤ v4.toNatClampNeg)) (
          lp_X11_weigh_35_3 hs f2 f3 n (v4 + 1) (sA q1.2 35 (upd (q1.2.1 35) v4.toNatClampNeg q1.1)))
set_option maxRecDepth 20000 in
set_option maxHeartbeats 4000000 in
theorem e_lp_X11_weigh_35_3 (d : Nat) (hs : List Hr) (P : Option Value → Hp → Prop) (f2 : Int32) (f3 : Int32) : ∀ (n : Nat) (v4 : Int32) (S : St) (q : St), lp_X11_weigh_35_3 hs f2 f3 n v4 S = some q → (WM mi_X11_weigh (d + 6) P 42 [some (.ref 7), some (.ref 35), some (.int f2), some (.int f3), none] [] (st q hs)) → WM mi_X11_weigh (d + 6) P 3 [some (.ref 7), some (.ref 35), some (.int f2), some (.int f3), some (.int v4)] [] (st S hs) := by
  intro n
  induction n with
  | zero =>
    intro v4 S q hl
    cases hl
  | succ n ih =>
    intro v4 S q hl ct
    rw [lp_X11_weigh_35_3] at hl
    refine Wp.stepsG 5 (fun cal X P' hk hX hP => ?_)
    show ((S.1 8 2) ≤ v4 → X (42, [some (.ref 7), some (.ref 35), some (.int f2), some (.int f3), some (.int v4)], [], st S hs, 0, 0)) ∧ (¬ (S.1 8 2) ≤ v4 → X (15, [some (.ref 7), some (.ref 35), some (.int f2), some (.int f3), some (.int v4)], [], st S hs, 0, 0))
    refine ⟨fun hc => hX _ ?_, fun hc => hX _ ?_⟩
    · clear hP hX hk P' X cal
      rw [if_pos hc] at hl
      have hl := Option.some.inj hl
      subst hl
      exact Wp.weak (leL.k (leL.k (leL.k (leL.k (leL.n leL.z))))) (ct)
    · clear hP hX hk P' X cal
      rw [if_neg hc] at hl
      refine Wp.stepsG 4 (fun cal X P' hk hX hP => ?_)
      show (8 ≤ v4 → X (42, [some (.ref 7), some (.ref 35), some (.int f2), some (.int f3), some (.int v4)], [], st S hs, 0, 0)) ∧ (¬ 8 ≤ v4 → X (22, [some (.ref 7), some (.ref 35), some (.int f2), some (.int f3), some (.int v4)], [], st S hs, 0, 0))
      refine ⟨fun hc => hX _ ?_, fun hc => hX _ ?_⟩
      · clear hP hX hk P' X cal
        rw [if_pos hc] at hl
        have hl := Option.some.inj hl
        subst hl
        exact Wp.weak (leL.k (leL.k (leL.k (leL.k (leL.n leL.z))))) (ct)
      · clear hP hX hk P' X cal
        rw [if_neg hc] at hl
        refine Wp.stepsG 9 (fun cal X P' hk hX hP => ?_)
        show kcall cal ix_X11_laughterThen [.ref 7, .int v4, .int f2, .int f3, .int 0, .int 0] (st S hs) [.int v4, .ref 35] 0 0 (0, 0) (fun v σ' c' m' => X (35, [some (.ref 7), some (.ref 35), some (.int f2), some (.int f3), some (.int v4)], v.toList ++ [.int v4, .ref 35], σ', c', m'))
        obtain ⟨q1, hq1, hl⟩ := bd_some hl
        refine kcall0 rfl (hk _ _ _ _ _ _ (e_X11_laughterThen (d + 0) S hs v4 f2 f3 0 0 q1 hq1 _ ?_))
        show X (35, [some (.ref 7), some (.ref 35), some (.int f2), some (.int f3), some (.int v4)], [.int q1.1, .int v4, .ref 35], st q1.2 hs, 0, 0)
        refine hX _ ?_
        clear hP hX hk P' X cal
        refine Wp.stepsG 1 (fun cal X P' hk hX hP => ?_)
        show vp_in v4 8 ∧ X (36, [some (.ref 7), some (.ref 35), some (.int f2), some (.int f3), some (.int v4)], [], st (sA q1.2 35 (upd (q1.2.1 35) v4.toNatClampNeg q1.1)) hs, 0, 0)
        obtain ⟨hg, hl⟩ := gd_some hl
        refine ⟨hg, hX _ ?_⟩
        clear hP hX hk P' X cal
        refine Wp.stepsG 2 (fun cal X P' hk hX hP => ?_)
        show X (3, [some (.ref 7), some (.ref 35), some (.int f2), some (.int f3), some (.int (v4 + 1))], [], st (sA q1.2 35 (upd (q1.2.1 35) v4.toNatClampNeg q1.1)) hs, 0, 0)
        refine hX _ ?_
        exact (ih (v4 + 1) (sA q1.2 35 (upd (q1.2.1 35) v4.toNatClampNeg q1.1)) q hl ct)
def r_X11_weigh_35 (S : St) (hs : List Hr) (a2 : Int32) (a3 : Int32) : Option (Int32 × St) :=
  (lp_X11_weigh_35_3 hs a2 a3 4000 0 S).bind fun q2 =>
    some (0, q2)
set_option maxRecDepth 20000 in
set_option maxHeartbeats 4000000 in
theorem e_X11_weigh_35 (d : Nat) (S : St) (hs : List Hr) (a2 : Int32) (a3 : Int32) (v : Int32 × St) (hr : r_X11_weigh_35 S hs a2 a3 = some v) (P : Option Value → Hp → Prop) (h : P none (st v.2 hs)) : Ev (d + 7) ix_X11_weigh 0 0 [.ref 7, .ref 35, .int a2, .int a3] (st S hs) P := by
  refine Ev.intro (M := mi_X11_weigh) rfl (Nat.le_of_ble_eq_true rfl) ?_
  unfold r_X11_weigh_35 at hr
  refine Wp.stepsG 2 (fun cal X P' hk hX hP => ?_)
  show X (3, [some (.ref 7), some (.ref 35), some (.int a2), some (.int a3), some (.int 0)], [], st S hs, 0, 0)
  refine hX _ ?_
  clear hP hX hk P' X cal
  obtain ⟨q2, hq2, hr⟩ := bd_some hr
  refine (e_lp_X11_weigh_35_3 d hs P a2 a3 _ 0 S q2 hq2 ?_)
  have hr := Option.some.inj hr
  subst hr
  refine Wp.stepsG 1 (fun cal X P' hk hX hP => ?_)
  exact hP _ _ h
def lp_X11_keep_118 (S : St) (hs : List Hr) (f4 : Int32) (f7 : Int32) : Nat → Int32 → Int32 → Int32 → Option (Int32 × Int32)
  | 0, _, _, _ => none
  | n + 1, v5, v6, v8 =>
    if (S.1 8 2) ≤ v8 then
      some (v5, v6)
    else
      gd (¬ (f7 < 0 ∨ 8 ≤ f7.toNatClampNeg)) (
        gd (¬ (v8 < 0 ∨ 8 ≤ v8.toNatClampNeg)) (
          if f7 = v8 then
            lp_X11_keep_118 S hs f4 f7 n v5 v6 (v8 + 1)
          else
            if (((S.1 34) f7.toNatClampNeg) + ((S.1 35) v8.toNatClampNeg)) ≤ v6 then
              lp_X11_keep_118 S hs f4 f7 n v5 v6 (v8 + 1)
            else
              lp_X11_keep_118 S hs f4 f7 n (((10 : Int32) * f7) + v8) (((S.1 34) f7.toNatClampNeg) + ((S.1 35) v8.toNatClampNeg)) (v8 + 1)))
set_option maxRecDepth 20000 in
set_option maxHeartbeats 4000000 in
theorem e_lp_X11_keep_118 (d : Nat) (hs : List Hr) (P : Option Value → Hp → Prop) (S : St) (f4 : Int32) (f7 : Int32) : ∀ (n : Nat) (v5 : Int32) (v6 : Int32) (v8 : Int32) (q : Int32 × Int32), lp_X11_keep_118 S hs f4 f7 n v5 v6 v8 = some q → (WM mi_X11_keep (d + 7) P 181 [some (.ref 7), none, none, none, some (.int f4), some (.int q.1), some (.int q.2), some (.int f7), none, none] [] (st S hs)) → WM mi_X11_keep (d + 7) P 118 [some (.ref 7), none, none, none, some (.int f4), some (.int v5), some (.int v6), some (.int f7), some (.int v8), none] [] (st S hs) := by
  intro n
  induction n with
  | zero =>
    intro v5 v6 v8 q hl
    cases hl
  | succ n ih =>
    intro v5 v6 v8 q hl ct
    rw [lp_X11_keep_118] at hl
    refine Wp.stepsG 5 (fun cal X P' hk hX hP => ?_)
    show ((S.1 8 2) ≤ v8 → X (181, [some (.ref 7), none, none, none, some (.int f4), some (.int v5), some (.int v6), some (.int f7), some (.int v8), none], [], st S hs, 0, 0)) ∧ (¬ (S.1 8 2) ≤ v8 → X (130, [some (.ref 7), none, none, none, some (.int f4), some (.int v5), some (.int v6), some (.int f7), some (.int v8), none], [], st S hs, 0, 0))
    refine ⟨fun hc => hX _ ?_, fun hc => hX _ ?_⟩
    · clear hP hX hk P' X cal
      rw [if_pos hc] at hl
      have hl := Option.some.inj hl
      subst hl
      exact Wp.weak (leL.k (leL.k (leL.k (leL.k (leL.k (leL.k (leL.k (leL.k (leL.n (leL.k leL.z)))))))))) (ct)
    · clear hP hX hk P' X cal
      rw [if_neg hc] at hl
      refine Wp.stepsG 4 (fun cal X P' hk hX hP => ?_)
      show vp_in f7 8 ∧ X (137, [some (.ref 7), none, none, none, some (.int f4), some (.int v5), some (.int v6), some (.int f7), some (.int v8), none], [.int ((S.1 34) f7.toNatClampNeg)], st S hs, 0, 0)
      obtain ⟨hg, hl⟩ := gd_some hl
      refine ⟨hg, hX _ ?_⟩
      clear hP hX hk P' X cal
      refine Wp.stepsG 4 (fun cal X P' hk hX hP => ?_)
      show vp_in v8 8 ∧ X (144, [some (.ref 7), none, none, none, some (.int f4), some (.int v5), some (.int v6), some (.int f7), some (.int v8), none], [.int ((S.1 35) v8.toNatClampNeg), .int ((S.1 34) f7.toNatClampNeg)], st S hs, 0, 0)
      obtain ⟨hg, hl⟩ := gd_some hl
      refine ⟨hg, hX _ ?_⟩
      clear hP hX hk P' X cal
      refine Wp.stepsG 5 (fun cal X P' hk hX hP => ?_)
      show (f7 = v8 → X (175, [some (.ref 7), none, none, none, some (.int f4), some (.int v5), some (.int v6), some (.int f7), some (.int v8), some (.int (((S.1 34) f7.toNatClampNeg) + ((S.1 35) v8.toNatClampNeg)))], [], st S hs, 0, 0)) ∧ (¬ f7 = v8 → X (154, [some (.ref 7), none, none, none, some (.int f4), some (.int v5), some (.int v6), some (.int f7), some (.int v8), some (.int (((S.1 34) f7.toNatClampNeg) + ((S.1 35) v8.toNatClampNeg)))], [], st S hs, 0, 0))
      refine ⟨fun hc => hX _ ?_, fun hc => hX _ ?_⟩
      · clear hP hX hk P' X cal
        rw [if_pos hc] at hl
        refine Wp.stepsG 2 (fun cal X P' hk hX hP => ?_)
        show X (118, [some (.ref 7), none, none, none, some (.int f4), some (.int v5), some (.int v6), some (.int f7), some (.int (v8 + 1)), some (.int (((S.1 34) f7.toNatClampNeg) + ((S.1 35) v8.toNatClampNeg)))], [], st S hs, 0, 0)
        refine hX _ ?_
        exact Wp.weak (leL.k (leL.k (leL.k (leL.k (leL.k (leL.k (leL.k (leL.k (leL.k (leL.n leL.z)))))))))) (ih v5 v6 (v8 + 1) q hl ct)
      · clear hP hX hk P' X cal
        rw [if_neg hc] at hl
        refine Wp.stepsG 3 (fun cal X P' hk hX hP => ?_)
        show ((((S.1 34) f7.toNatClampNeg) + ((S.1 35) v8.toNatClampNeg)) ≤ v6 → X (175, [some (.ref 7), none, none, none, some (.int f4), some (.int v5), some (.int v6), some (.int f7), some (.int v8), some (.int (((S.1 34) f7.toNatClampNeg) + ((S.1 35) v8.toNatClampNeg)))], [], st S hs, 0, 0)) ∧ (¬ (((S.1 34) f7.toNatClampNeg) + ((S.1 35) v8.toNatClampNeg)) ≤ v6 → X (161, [some (.ref 7), none, none, none, some (.int f4), some (.int v5), some (.int v6), some (.int f7), some (.int v8), some (.int (((S.1 34) f7.toNatClampNeg) + ((S.1 35) v8.toNatClampNeg)))], [], st S hs, 0, 0))
        refine ⟨fun hc => hX _ ?_, fun hc => hX _ ?_⟩
        · clear hP hX hk P' X cal
          rw [if_pos hc] at hl
          refine Wp.stepsG 2 (fun cal X P' hk hX hP => ?_)
          show X (118, [some (.ref 7), none, none, none, some (.int f4), some (.int v5), some (.int v6), some (.int f7), some (.int (v8 + 1)), some (.int (((S.1 34) f7.toNatClampNeg) + ((S.1 35) v8.toNatClampNeg)))], [], st S hs, 0, 0)
          refine hX _ ?_
          exact Wp.weak (leL.k (leL.k (leL.k (leL.k (leL.k (leL.k (leL.k (leL.k (leL.k (leL.n leL.z)))))))))) (ih v5 v6 (v8 + 1) q hl ct)
        · clear hP hX hk P' X cal
          rw [if_neg hc] at hl
          refine Wp.stepsG 10 (fun cal X P' hk hX hP => ?_)
          show X (118, [some (.ref 7), none, none, none, some (.int f4), some (.int (((10 : Int32) * f7) + v8)), some (.int (((S.1 34) f7.toNatClampNeg) + ((S.1 35) v8.toNatClampNeg))), some (.int f7), some (.int (v8 + 1)), some (.int (((S.1 34) f7.toNatClampNeg) + ((S.1 35) v8.toNatClampNeg)))], [], st S hs, 0, 0)
          refine hX _ ?_
          exact Wp.weak (leL.k (leL.k (leL.k (leL.k (leL.k (leL.k (leL.k (leL.k (leL.k (leL.n leL.z)))))))))) (ih (((10 : Int32) * f7) + v8) (((S.1 34) f7.toNatClampNeg) + ((S.1 35) v8.toNatClampNeg)) (v8 + 1) q hl ct)
def lp_X11_keep_103 (S : St) (hs : List Hr) (f4 : Int32) : Nat → Int32 → Int32 → Int32 → Option (Int32 × Int32)
  | 0, _, _, _ => none
  | n + 1, v5, v6, v7 =>
    if (S.1 8 2) ≤ v7 then
      some (v5, v6)
    else
      (lp_X11_keep_118 S hs f4 v7 4000 v5 v6 0).bind fun q3 =>
        lp_X11_keep_103 S hs f4 n q3.1 q3.2 (v7 + 1)
set_option maxRecDepth 20000 in
set_option maxHeartbeats 4000000 in
theorem e_lp_X11_keep_103 (d : Nat) (hs : List Hr) (P : Option Value → Hp → Prop) (S : St) (f4 : Int32) : ∀ (n : Nat) (v5 : Int32) (v6 : Int32) (v7 : Int32) (q : Int32 × Int32), lp_X11_keep_103 S hs f4 n v5 v6 v7 = some q → (WM mi_X11_keep (d + 7) P 187 [some (.ref 7), none, none, none, some (.int f4), some (.int q.1), some (.int q.2), none, none, none] [] (st S hs)) → WM mi_X11_keep (d + 7) P 103 [some (.ref 7), none, none, none, some (.int f4), some (.int v5), some (.int v6), some (.int v7), none, none] [] (st S hs) := by
  intro n
  induction n with
  | zero =>
    intro v5 v6 v7 q hl
    cases hl
  | succ n ih =>
    intro v5 v6 v7 q hl ct
    rw [lp_X11_keep_103] at hl
    refine Wp.stepsG 5 (fun cal X P' hk hX hP => ?_)
    show ((S.1 8 2) ≤ v7 → X (187, [some (.ref 7), none, none, none, some (.int f4), some (.int v5), some (.int v6), some (.int v7), none, none], [], st S hs, 0, 0)) ∧ (¬ (S.1 8 2) ≤ v7 → X (115, [some (.ref 7), none, none, none, some (.int f4), some (.int v5), some (.int v6), some (.int v7), none, none], [], st S hs, 0, 0))
    refine ⟨fun hc => hX _ ?_, fun hc => hX _ ?_⟩
    · clear hP hX hk P' X cal
      rw [if_pos hc] at hl
      have hl := Option.some.inj hl
      subst hl
      exact Wp.weak (leL.k (leL.k (leL.k (leL.k (leL.k (leL.k (leL.k (leL.n (leL.k (leL.k leL.z)))))))))) (ct)
    · clear hP hX hk P' X cal
      rw [if_neg hc] at hl
      refine Wp.stepsG 2 (fun cal X P' hk hX hP => ?_)
      show X (118, [some (.ref 7), none, none, none, some (.int f4), some (.int v5), some (.int v6), some (.int v7), some (.int 0), none], [], st S hs, 0, 0)
      refine hX _ ?_
      clear hP hX hk P' X cal
      obtain ⟨q3, hq3, hl⟩ := bd_some hl
      refine (e_lp_X11_keep_118 d hs P S f4 v7 _ v5 v6 0 q3 hq3 ?_)
      refine Wp.stepsG 2 (fun cal X P' hk hX hP => ?_)
      show X (103, [some (.ref 7), none, none, none, some (.int f4), some (.int q3.1), some (.int q3.2), some (.int (v7 + 1)), none, none], [], st S hs, 0, 0)
      refine hX _ ?_
      exact (ih q3.1 q3.2 (v7 + 1) q hl ct)
def r_X11_keep (S : St) (hs : List Hr) (a1 : Int32) (a2 : Int32) (a3 : Int32) (a4 : Int32) : Option (Int32 × St) :=
  if (r_X11_within a4 0 1) = 0 then
    some ((-10001), S)
  else
    if (r_X11_isTable S a1) = 0 then
      some ((-10002), S)
    else
      if (r_X11_isTable S a2) = 0 then
        some ((-10002), S)
      else
        if (r_X11_within a3 1 60) = 0 then
          some ((-10002), S)
        else
          if 2 ≤ (S.1 8 2) then
            (r_X11_weigh_34 S hs a1 (S.1 8 0)).bind fun q1 =>
            (r_X11_weigh_35 q1.2 hs a2 ((q1.2.1 8 0) + a3)).bind fun q2 =>
            (lp_X11_keep_103 q2.2 hs a4 4000 0 (-1000000) 0).bind fun q4 =>
              if a4 = 0 then
                some (q4.1, q2.2)
              else
                some (q4.2, q2.2)
          else
            some ((-10005), S)
set_option maxRecDepth 20000 in
set_option maxHeartbeats 4000000 in
theorem e_X11_keep (d : Nat) (S : St) (hs : List Hr) (a1 : Int32) (a2 : Int32) (a3 : Int32) (a4 : Int32) (v : Int32 × St) (hr : r_X11_keep S hs a1 a2 a3 a4 = some v) (P : Option Value → Hp → Prop) (h : P (some (.int v.1)) (st v.2 hs)) : Ev (d + 8) ix_X11_keep 0 0 [.ref 7, .int a1, .int a2, .int a3, .int a4] (st S hs) P := by
  refine Ev.intro (M := mi_X11_keep) rfl (Nat.le_of_ble_eq_true rfl) ?_
  unfold r_X11_keep at hr
  refine Wp.stepsG 4 (fun cal X P' hk hX hP => ?_)
  show kcall cal ix_X11_within [.int a4, .int 0, .int 1] (st S hs) [] 0 0 (0, 0) (fun v σ' c' m' => X (7, [some (.ref 7), some (.int a1), some (.int a2), some (.int a3), some (.int a4), none, none, none, none, none], v.toList ++ [], σ', c', m'))
  refine kcall0 rfl (hk _ _ _ _ _ _ (e_X11_within (d + 6) S hs a4 0 1 _ ?_))
  show X (7, [some (.ref 7), some (.int a1), some (.int a2), some (.int a3), some (.int a4), none, none, none, none, none], [.int (r_X11_within a4 0 1)], st S hs, 0, 0)
  refine hX _ ?_
  clear hP hX hk P' X cal
  refine Wp.stepsG 1 (fun cal X P' hk hX hP => ?_)
  show (¬ (r_X11_within a4 0 1) = 0 → X (14, [some (.ref 7), some (.int a1), some (.int a2), some (.int a3), some (.int a4), none, none, none, none, none], [], st S hs, 0, 0)) ∧ ((r_X11_within a4 0 1) = 0 → X (10, [some (.ref 7), some (.int a1), some (.int a2), some (.int a3), some (.int a4), none, none, none, none, none], [], st S hs, 0, 0))
  refine ⟨fun hc => hX _ ?_, fun hc => hX _ ?_⟩
  · clear hP hX hk P' X cal
    rw [if_neg hc] at hr
    refine Wp.stepsG 3 (fun cal X P' hk hX hP => ?_)
    show kcall cal ix_X11_isTable [.ref 7, .int a1] (st S hs) [] 0 0 (0, 0) (fun v σ' c' m' => X (19, [some (.ref 7), some (.int a1), some (.int a2), some (.int a3), some (.int a4), none, none, none, none, none], v.toList ++ [], σ', c', m'))
    refine kcall0 rfl (hk _ _ _ _ _ _ (e_X11_isTable (d + 5) S hs a1 _ ?_))
    show X (19, [some (.ref 7), some (.int a1), some (.int a2), some (.int a3), some (.int a4), none, none, none, none, none], [.int (r_X11_isTable S a1)], st S hs, 0, 0)
    refine hX _ ?_
    clear hP hX hk P' X cal
    refine Wp.stepsG 1 (fun cal X P' hk hX hP => ?_)
    show ((r_X11_isTable S a1) = 0 → X (40, [some (.ref 7), some (.int a1), some (.int a2), some (.int a3), some (.int a4), none, none, none, none, none], [], st S hs, 0, 0)) ∧ (¬ (r_X11_isTable S a1) = 0 → X (22, [some (.ref 7), some (.int a1), some (.int a2), some (.int a3), some (.int a4), none, none, none, none, none], [], st S hs, 0, 0))
    refine ⟨fun hc => hX _ ?_, fun hc => hX _ ?_⟩
    · clear hP hX hk P' X cal
      rw [if_pos hc] at hr
      have hr := Option.some.inj hr
      subst hr
      refine Wp.stepsG 2 (fun cal X P' hk hX hP => ?_)
      exact hP _ _ h
    · clear hP hX hk P' X cal
      rw [if_neg hc] at hr
      refine Wp.stepsG 3 (fun cal X P' hk hX hP => ?_)
      show kcall cal ix_X11_isTable [.ref 7, .int a2] (st S hs) [] 0 0 (0, 0) (fun v σ' c' m' => X (27, [some (.ref 7), some (.int a1), some (.int a2), some (.int a3), some (.int a4), none, none, none, none, none], v.toList ++ [], σ', c', m'))
      refine kcall0 rfl (hk _ _ _ _ _ _ (e_X11_isTable (d + 5) S hs a2 _ ?_))
      show X (27, [some (.ref 7), some (.int a1), some (.int a2), some (.int a3), some (.int a4), none, none, none, none, none], [.int (r_X11_isTable S a2)], st S hs, 0, 0)
      refine hX _ ?_
      clear hP hX hk P' X cal
      refine Wp.stepsG 1 (fun cal X P' hk hX hP => ?_)
      show ((r_X11_isTable S a2) = 0 → X (40, [some (.ref 7), some (.int a1), some (.int a2), some (.int a3), some (.int a4), none, none, none, none, none], [], st S hs, 0, 0)) ∧ (¬ (r_X11_isTable S a2) = 0 → X (30, [some (.ref 7), some (.int a1), some (.int a2), some (.int a3), some (.int a4), none, none, none, none, none], [], st S hs, 0, 0))
      refine ⟨fun hc => hX _ ?_, fun hc => hX _ ?_⟩
      · clear hP hX hk P' X cal
        rw [if_pos hc] at hr
        have hr := Option.some.inj hr
        subst hr
        refine Wp.stepsG 2 (fun cal X P' hk hX hP => ?_)
        exact hP _ _ h
      · clear hP hX hk P' X cal
        rw [if_neg hc] at hr
        refine Wp.stepsG 4 (fun cal X P' hk hX hP => ?_)
        show kcall cal ix_X11_within [.int a3, .int 1, .int 60] (st S hs) [] 0 0 (0, 0) (fun v σ' c' m' => X (37, [some (.ref 7), some (.int a1), some (.int a2), some (.int a3), some (.int a4), none, none, none, none, none], v.toList ++ [], σ', c', m'))
        refine kcall0 rfl (hk _ _ _ _ _ _ (e_X11_within (d + 6) S hs a3 1 60 _ ?_))
        show X (37, [some (.ref 7), some (.int a1), some (.int a2), some (.int a3), some (.int a4), none, none, none, none, none], [.int (r_X11_within a3 1 60)], st S hs, 0, 0)
        refine hX _ ?_
        clear hP hX hk P' X cal
        refine Wp.stepsG 1 (fun cal X P' hk hX hP => ?_)
        show (¬ (r_X11_within a3 1 60) = 0 → X (44, [some (.ref 7), some (.int a1), some (.int a2), some (.int a3), some (.int a4), none, none, none, none, none], [], st S hs, 0, 0)) ∧ ((r_X11_within a3 1 60) = 0 → X (40, [some (.ref 7), some (.int a1), some (.int a2), some (.int a3), some (.int a4), none, none, none, none, none], [], st S hs, 0, 0))
        refine ⟨fun hc => hX _ ?_, fun hc => hX _ ?_⟩
        · clear hP hX hk P' X cal
          rw [if_neg hc] at hr
          refine Wp.stepsG 5 (fun cal X P' hk hX hP => ?_)
          show (2 ≤ (S.1 8 2) → X (59, [some (.ref 7), some (.int a1), some (.int a2), some (.int a3), some (.int a4), none, none, none, none, none], [], st S hs, 0, 0)) ∧ (¬ 2 ≤ (S.1 8 2) → X (55, [some (.ref 7), some (.int a1), some (.int a2), some (.int a3), some (.int a4), none, none, none, none, none], [], st S hs, 0, 0))
          refine ⟨fun hc => hX _ ?_, fun hc => hX _ ?_⟩
          · clear hP hX hk P' X cal
            rw [if_pos hc] at hr
            refine Wp.stepsG 8 (fun cal X P' hk hX hP => ?_)
            show kcall cal ix_X11_weigh [.ref 7, .ref 34, .int a1, .int (S.1 8 0)] (st S hs) [] 0 0 (0, 0) (fun v σ' c' m' => X (75, [some (.ref 7), some (.int a1), some (.int a2), some (.int a3), some (.int a4), none, none, none, none, none], v.toList ++ [], σ', c', m'))
            obtain ⟨q1, hq1, hr⟩ := bd_some hr
            refine kcall0 rfl (hk _ _ _ _ _ _ (e_X11_weigh_34 (d + 0) S hs a1 (S.1 8 0) q1 hq1 _ ?_))
            show X (75, [some (.ref 7), some (.int a1), some (.int a2), some (.int a3), some (.int a4), none, none, none, none, none], [], st q1.2 hs, 0, 0)
            refine hX _ ?_
            clear hP hX hk P' X cal
            refine Wp.stepsG 10 (fun cal X P' hk hX hP => ?_)
            show kcall cal ix_X11_weigh [.ref 7, .ref 35, .int a2, .int ((q1.2.1 8 0) + a3)] (st q1.2 hs) [] 0 0 (0, 0) (fun v σ' c' m' => X (93, [some (.ref 7), some (.int a1), some (.int a2), some (.int a3), some (.int a4), none, none, none, none, none], v.toList ++ [], σ', c', m'))
            obtain ⟨q2, hq2, hr⟩ := bd_some hr
            refine kcall0 rfl (hk _ _ _ _ _ _ (e_X11_weigh_35 (d + 0) q1.2 hs a2 ((q1.2.1 8 0) + a3) q2 hq2 _ ?_))
            show X (93, [some (.ref 7), some (.int a1), some (.int a2), some (.int a3), some (.int a4), none, none, none, none, none], [], st q2.2 hs, 0, 0)
            refine hX _ ?_
            clear hP hX hk P' X cal
            refine Wp.stepsG 6 (fun cal X P' hk hX hP => ?_)
            show X (103, [some (.ref 7), some (.int a1), some (.int a2), some (.int a3), some (.int a4), some (.int 0), some (.int (-1000000)), some (.int 0), none, none], [], st q2.2 hs, 0, 0)
            refine hX _ ?_
            clear hP hX hk P' X cal
            obtain ⟨q4, hq4, hr⟩ := bd_some hr
            refine Wp.weak (leL.k (leL.n (leL.n (leL.n (leL.k (leL.k (leL.k (leL.k (leL.k (leL.k leL.z)))))))))) (e_lp_X11_keep_103 d hs P q2.2 a4 _ 0 (-1000000) 0 q4 hq4 ?_)
            refine Wp.stepsG 2 (fun cal X P' hk hX hP => ?_)
            show (¬ a4 = 0 → X (197, [some (.ref 7), none, none, none, some (.int a4), some (.int q4.1), some (.int q4.2), none, none, none], [], st q2.2 hs, 0, 0)) ∧ (a4 = 0 → X (192, [some (.ref 7), none, none, none, some (.int a4), some (.int q4.1), some (.int q4.2), none, none, none], [], st q2.2 hs, 0, 0))
            refine ⟨fun hc => hX _ ?_, fun hc => hX _ ?_⟩
            · clear hP hX hk P' X cal
              rw [if_neg hc] at hr
              have hr := Option.some.inj hr
              subst hr
              refine Wp.stepsG 2 (fun cal X P' hk hX hP => ?_)
              exact hP _ _ h
            · clear hP hX hk P' X cal
              rw [if_pos hc] at hr
              have hr := Option.some.inj hr
              subst hr
              refine Wp.stepsG 3 (fun cal X P' hk hX hP => ?_)
              exact hP _ _ h
          · clear hP hX hk P' X cal
            rw [if_neg hc] at hr
            have hr := Option.some.inj hr
            subst hr
            refine Wp.stepsG 2 (fun cal X P' hk hX hP => ?_)
            exact hP _ _ h
        · clear hP hX hk P' X cal
          rw [if_pos hc] at hr
          have hr := Option.some.inj hr
          subst hr
          refine Wp.stepsG 2 (fun cal X P' hk hX hP => ?_)
          exact hP _ _ h
  · clear hP hX hk P' X cal
    rw [if_pos hc] at hr
    have hr := Option.some.inj hr
    subst hr
    refine Wp.stepsG 2 (fun cal X P' hk hX hP => ?_)
    exact hP _ _ h
def lp_X11_weighSuppers_27 (hs : List Hr) (f1 : Int32) (f2 : Int32) (f3 : Int32) (f4 : Int32) (f5 : Int32) : Nat → Int32 → St → Option (St)
  | 0, _, _ => none
  | n + 1, v6, S =>
    if ((1 : Int32) <<< (f4 &&& 31)) ≤ v6 then
      some S
    else
      (r_X11_laughterThen S hs f5 f1 ((S.1 8 0) + (f4 * f3)) (r_J6_bitCount_0f7a4 v6) ((S.1 8 0) + ((v6 >>> (1 &&& 31)) * f3))).bind fun q1 =>
      gd (¬ ((r_X11_supperPlace f4 f5 v6) < 0 ∨ 96 ≤ (r_X11_supperPlace f4 f5 v6).toNatClampNeg)) (
        lp_X11_weighSuppers_27 hs f1 f2 f3 f4 f5 n (v6 + 1) (sA q1.2 37 (upd (q1.2.1 37) (r_X11_supperPlace f4 f5 v6).toNatClampNeg q1.1)))
set_option maxRecDepth 20000 in
set_option maxHeartbeats 4000000 in
theorem e_lp_X11_weighSuppers_27 (d : Nat) (hs : List Hr) (P : Option Value → Hp → Prop) (f1 : Int32) (f2 : Int32) (f3 : Int32) (f4 : Int32) (f5 : Int32) : ∀ (n : Nat) (v6 : Int32) (S : St) (q : St), lp_X11_weighSuppers_27 hs f1 f2 f3 f4 f5 n v6 S = some q → (WM mi_X11_weighSuppers (d + 6) P 98 [some (.ref 7), some (.int f1), some (.int f2), some (.int f3), some (.int f4), some (.int f5), none, none] [] (st q hs)) → WM mi_X11_weighSuppers (d + 6) P 27 [some (.ref 7), some (.int f1), some (.int f2), some (.int f3), some (.int f4), some (.int f5), some (.int v6), none] [] (st S hs) := by
  intro n
  induction n with
  | zero =>
    intro v6 S q hl
    cases hl
  | succ n ih =>
    intro v6 S q hl ct
    rw [lp_X11_weighSuppers_27] at hl
    refine Wp.stepsG 5 (fun cal X P' hk hX hP => ?_)
    show (((1 : Int32) <<< (f4 &&& 31)) ≤ v6 → X (98, [some (.ref 7), some (.int f1), some (.int f2), some (.int f3), some (.int f4), some (.int f5), some (.int v6), none], [], st S hs, 0, 0)) ∧ (¬ ((1 : Int32) <<< (f4 &&& 31)) ≤ v6 → X (36, [some (.ref 7), some (.int f1), some (.int f2), some (.int f3), some (.int f4), some (.int f5), some (.int v6), none], [], st S hs, 0, 0))
    refine ⟨fun hc => hX _ ?_, fun hc => hX _ ?_⟩
    · clear hP hX hk P' X cal
      rw [if_pos hc] at hl
      have hl := Option.some.inj hl
      subst hl
      exact Wp.weak (leL.k (leL.k (leL.k (leL.k (leL.k (leL.k (leL.n (leL.k leL.z)))))))) (ct)
    · clear hP hX hk P' X cal
      rw [if_neg hc] at hl
      refine Wp.stepsG 16 (fun cal X P' hk hX hP => ?_)
      show kcall cal ix_X11_supperPlace [.int f4, .int f5, .int v6] (st S hs) [.ref 37] 0 0 (0, 0) (fun v σ' c' m' => X (65, [some (.ref 7), some (.int f1), some (.int f2), some (.int f3), some (.int f4), some (.int f5), some (.int v6), some (.int ((S.1 8 0) + ((v6 >>> (1 &&& 31)) * f3)))], v.toList ++ [.ref 37], σ', c', m'))
      refine kcall0 rfl (hk _ _ _ _ _ _ (e_X11_supperPlace (d + 5) S hs f4 f5 v6 _ ?_))
      show X (65, [some (.ref 7), some (.int f1), some (.int f2), some (.int f3), some (.int f4), some (.int f5), some (.int v6), some (.int ((S.1 8 0) + ((v6 >>> (1 &&& 31)) * f3)))], [.int (r_X11_supperPlace f4 f5 v6), .ref 37], st S hs, 0, 0)
      refine hX _ ?_
      clear hP hX hk P' X cal
      refine Wp.stepsG 12 (fun cal X P' hk hX hP => ?_)
      show kcall cal ix_J6_bitCount_0f7a4 [.int v6] (st S hs) [.int ((S.1 8 0) + (f4 * f3)), .int f1, .int f5, .ref 7, .int (r_X11_supperPlace f4 f5 v6), .ref 37] 0 0 (0, 0) (fun v σ' c' m' => X (86, [some (.ref 7), some (.int f1), some (.int f2), some (.int f3), some (.int f4), some (.int f5), some (.int v6), some (.int ((S.1 8 0) + ((v6 >>> (1 &&& 31)) * f3)))], v.toList ++ [.int ((S.1 8 0) + (f4 * f3)), .int f1, .int f5, .ref 7, .int (r_X11_supperPlace f4 f5 v6), .ref 37], σ', c', m'))
      refine kcall0 rfl (hk _ _ _ _ _ _ (e_J6_bitCount_0f7a4 (d + 5) S hs v6 _ ?_))
      show X (86, [some (.ref 7), some (.int f1), some (.int f2), some (.int f3), some (.int f4), some (.int f5), some (.int v6), some (.int ((S.1 8 0) + ((v6 >>> (1 &&& 31)) * f3)))], [.int (r_J6_bitCount_0f7a4 v6), .int ((S.1 8 0) + (f4 * f3)), .int f1, .int f5, .ref 7, .int (r_X11_supperPlace f4 f5 v6), .ref 37], st S hs, 0, 0)
      refine hX _ ?_
      clear hP hX hk P' X cal
      refine Wp.stepsG 2 (fun cal X P' hk hX hP => ?_)
      show kcall cal ix_X11_laughterThen [.ref 7, .int f5, .int f1, .int ((S.1 8 0) + (f4 * f3)), .int (r_J6_bitCount_0f7a4 v6), .int ((S.1 8 0) + ((v6 >>> (1 &&& 31)) * f3))] (st S hs) [.int (r_X11_supperPlace f4 f5 v6), .ref 37] 0 0 (0, 0) (fun v σ' c' m' => X (91, [some (.ref 7), some (.int f1), some (.int f2), some (.int f3), some (.int f4), some (.int f5), some (.int v6), some (.int ((S.1 8 0) + ((v6 >>> (1 &&& 31)) * f3)))], v.toList ++ [.int (r_X11_supperPlace f4 f5 v6), .ref 37], σ', c', m'))
      obtain ⟨q1, hq1, hl⟩ := bd_some hl
      refine kcall0 rfl (hk _ _ _ _ _ _ (e_X11_laughterThen (d + 0) S hs f5 f1 ((S.1 8 0) + (f4 * f3)) (r_J6_bitCount_0f7a4 v6) ((S.1 8 0) + ((v6 >>> (1 &&& 31)) * f3)) q1 hq1 _ ?_))
      show X (91, [some (.ref 7), some (.int f1), some (.int f2), some (.int f3), some (.int f4), some (.int f5), some (.int v6), some (.int ((S.1 8 0) + ((v6 >>> (1 &&& 31)) * f3)))], [.int q1.1, .int (r_X11_supperPlace f4 f5 v6), .ref 37], st q1.2 hs, 0, 0)
      refine hX _ ?_
      clear hP hX hk P' X cal
      refine Wp.stepsG 1 (fun cal X P' hk hX hP => ?_)
      show vp_in (r_X11_supperPlace f4 f5 v6) 96 ∧ X (92, [some (.ref 7), some (.int f1), some (.int f2), some (.int f3), some (.int f4), some (.int f5), some (.int v6), some (.int ((S.1 8 0) + ((v6 >>> (1 &&& 31)) * f3)))], [], st (sA q1.2 37 (upd (q1.2.1 37) (r_X11_supperPlace f4 f5 v6).toNatClampNeg q1.1)) hs, 0, 0)
      obtain ⟨hg, hl⟩ := gd_some hl
      refine ⟨hg, hX _ ?_⟩
      clear hP hX hk P' X cal
      refine Wp.stepsG 2 (fun cal X P' hk hX hP => ?_)
      show X (27, [some (.ref 7), some (.int f1), some (.int f2), some (.int f3), some (.int f4), some (.int f5), some (.int (v6 + 1)), some (.int ((S.1 8 0) + ((v6 >>> (1 &&& 31)) * f3)))], [], st (sA q1.2 37 (upd (q1.2.1 37) (r_X11_supperPlace f4 f5 v6).toNatClampNeg q1.1)) hs, 0, 0)
      refine hX _ ?_
      exact Wp.weak (leL.k (leL.k (leL.k (leL.k (leL.k (leL.k (leL.k (leL.n leL.z)))))))) (ih (v6 + 1) (sA q1.2 37 (upd (q1.2.1 37) (r_X11_supperPlace f4 f5 v6).toNatClampNeg q1.1)) q hl ct)
def lp_X11_weighSuppers_12 (hs : List Hr) (f1 : Int32) (f2 : Int32) (f3 : Int32) (f4 : Int32) : Nat → Int32 → St → Option (St)
  | 0, _, _ => none
  | n + 1, v5, S =>
    if (S.1 8 2) ≤ v5 then
      some S
    else
      (lp_X11_weighSuppers_27 hs f1 f2 f3 f4 v5 4000 0 S).bind fun q2 =>
        lp_X11_weighSuppers_12 hs f1 f2 f3 f4 n (v5 + 1) q2
set_option maxRecDepth 20000 in
set_option maxHeartbeats 4000000 in
theorem e_lp_X11_weighSuppers_12 (d : Nat) (hs : List Hr) (P : Option Value → Hp → Prop) (f1 : Int32) (f2 : Int32) (f3 : Int32) (f4 : Int32) : ∀ (n : Nat) (v5 : Int32) (S : St) (q : St), lp_X11_weighSuppers_12 hs f1 f2 f3 f4 n v5 S = some q → (WM mi_X11_weighSuppers (d + 6) P 104 [some (.ref 7), some (.int f1), some (.int f2), some (.int f3), some (.int f4), none, none, none] [] (st q hs)) → WM mi_X11_weighSuppers (d + 6) P 12 [some (.ref 7), some (.int f1), some (.int f2), some (.int f3), some (.int f4), some (.int v5), none, none] [] (st S hs) := by
  intro n
  induction n with
  | zero =>
    intro v5 S q hl
    cases hl
  | succ n ih =>
    intro v5 S q hl ct
    rw [lp_X11_weighSuppers_12] at hl
    refine Wp.stepsG 5 (fun cal X P' hk hX hP => ?_)
    show ((S.1 8 2) ≤ v5 → X (104, [some (.ref 7), some (.int f1), some (.int f2), some (.int f3), some (.int f4), some (.int v5), none, none], [], st S hs, 0, 0)) ∧ (¬ (S.1 8 2) ≤ v5 → X (24, [some (.ref 7), some (.int f1), some (.int f2), some (.int f3), some (.int f4), some (.int v5), none, none], [], st S hs, 0, 0))
    refine ⟨fun hc => hX _ ?_, fun hc => hX _ ?_⟩
    · clear hP hX hk P' X cal
      rw [if_pos hc] at hl
      have hl := Option.some.inj hl
      subst hl
      exact Wp.weak (leL.k (leL.k (leL.k (leL.k (leL.k (leL.n (leL.k (leL.k leL.z)))))))) (ct)
    · clear hP hX hk P' X cal
      rw [if_neg hc] at hl
      refine Wp.stepsG 2 (fun cal X P' hk hX hP => ?_)
      show X (27, [some (.ref 7), some (.int f1), some (.int f2), some (.int f3), some (.int f4), some (.int v5), some (.int 0), none], [], st S hs, 0, 0)
      refine hX _ ?_
      clear hP hX hk P' X cal
      obtain ⟨q2, hq2, hl⟩ := bd_some hl
      refine (e_lp_X11_weighSuppers_27 d hs P f1 f2 f3 f4 v5 _ 0 S q2 hq2 ?_)
      refine Wp.stepsG 2 (fun cal X P' hk hX hP => ?_)
      show X (12, [some (.ref 7), some (.int f1), some (.int f2), some (.int f3), some (.int f4), some (.int (v5 + 1)), none, none], [], st q2 hs, 0, 0)
      refine hX _ ?_
      exact (ih (v5 + 1) q2 q hl ct)
def lp_X11_weighSuppers_3 (hs : List Hr) (f1 : Int32) (f2 : Int32) (f3 : Int32) : Nat → Int32 → St → Option (St)
  | 0, _, _ => none
  | n + 1, v4, S =>
    if f2 ≤ v4 then
      some S
    else
      (lp_X11_weighSuppers_12 hs f1 f2 f3 v4 4000 0 S).bind fun q3 =>
        lp_X11_weighSuppers_3 hs f1 f2 f3 n (v4 + 1) q3
set_option maxRecDepth 20000 in
set_option maxHeartbeats 4000000 in
theorem e_lp_X11_weighSuppers_3 (d : Nat) (hs : List Hr) (P : Option Value → Hp → Prop) (f1 : Int32) (f2 : Int32) (f3 : Int32) : ∀ (n : Nat) (v4 : Int32) (S : St) (q : St), lp_X11_weighSuppers_3 hs f1 f2 f3 n v4 S = some q → (WM mi_X11_weighSuppers (d + 6) P 110 [some (.ref 7), some (.int f1), some (.int f2), some (.int f3), none, none, none, none] [] (st q hs)) → WM mi_X11_weighSuppers (d + 6) P 3 [some (.ref 7), some (.int f1), some (.int f2), some (.int f3), some (.int v4), none, none, none] [] (st S hs) := by
  intro n
  induction n with
  | zero =>
    intro v4 S q hl
    cases hl
  | succ n ih =>
    intro v4 S q hl ct
    rw [lp_X11_weighSuppers_3] at hl
    refine Wp.stepsG 3 (fun cal X P' hk hX hP => ?_)
    show (f2 ≤ v4 → X (110, [some (.ref 7), some (.int f1), some (.int f2), some (.int f3), some (.int v4), none, none, none], [], st S hs, 0, 0)) ∧ (¬ f2 ≤ v4 → X (9, [some (.ref 7), some (.int f1), some (.int f2), some (.int f3), some (.int v4), none, none, none], [], st S hs, 0, 0))
    refine ⟨fun hc => hX _ ?_, fun hc => hX _ ?_⟩
    · clear hP hX hk P' X cal
      rw [if_pos hc] at hl
      have hl := Option.some.inj hl
      subst hl
      exact Wp.weak (leL.k (leL.k (leL.k (leL.k (leL.n (leL.k (leL.k (leL.k leL.z)))))))) (ct)
    · clear hP hX hk P' X cal
      rw [if_neg hc] at hl
      refine Wp.stepsG 2 (fun cal X P' hk hX hP => ?_)
      show X (12, [some (.ref 7), some (.int f1), some (.int f2), some (.int f3), some (.int v4), some (.int 0), none, none], [], st S hs, 0, 0)
      refine hX _ ?_
      clear hP hX hk P' X cal
      obtain ⟨q3, hq3, hl⟩ := bd_some hl
      refine (e_lp_X11_weighSuppers_12 d hs P f1 f2 f3 v4 _ 0 S q3 hq3 ?_)
      refine Wp.stepsG 2 (fun cal X P' hk hX hP => ?_)
      show X (3, [some (.ref 7), some (.int f1), some (.int f2), some (.int f3), some (.int (v4 + 1)), none, none, none], [], st q3 hs, 0, 0)
      refine hX _ ?_
      exact (ih (v4 + 1) q3 q hl ct)
def r_X11_weighSuppers (S : St) (hs : List Hr) (a1 : Int32) (a2 : Int32) (a3 : Int32) : Option (Int32 × St) :=
  (lp_X11_weighSuppers_3 hs a1 a2 a3 4000 0 S).bind fun q4 =>
    some (0, q4)
set_option maxRecDepth 20000 in
set_option maxHeartbeats 4000000 in
theorem e_X11_weighSuppers (d : Nat) (S : St) (hs : List Hr) (a1 : Int32) (a2 : Int32) (a3 : Int32) (v : Int32 × St) (hr : r_X11_weighSuppers S hs a1 a2 a3 = some v) (P : Option Value → Hp → Prop) (h : P none (st v.2 hs)) : Ev (d + 7) ix_X11_weighSuppers 0 0 [.ref 7, .int a1, .int a2, .int a3] (st S hs) P := by
  refine Ev.intro (M := mi_X11_weighSuppers) rfl (Nat.le_of_ble_eq_true rfl) ?_
  unfold r_X11_weighSuppers at hr
  refine Wp.stepsG 2 (fun cal X P' hk hX hP => ?_)
  show X (3, [some (.ref 7), some (.int a1), some (.int a2), some (.int a3), some (.int 0), none, none, none], [], st S hs, 0, 0)
  refine hX _ ?_
  clear hP hX hk P' X cal
  obtain ⟨q4, hq4, hr⟩ := bd_some hr
  refine (e_lp_X11_weighSuppers_3 d hs P a1 a2 a3 _ 0 S q4 hq4 ?_)
  have hr := Option.some.inj hr
  subst hr
  refine Wp.stepsG 1 (fun cal X P' hk hX hP => ?_)
  exact hP _ _ h
def lp_X11_suppers_82 (S : St) (hs : List Hr) (f2 : Int32) (f4 : Int32) : Nat → Int32 → Int32 → Int32 → Option (Int32 × Int32)
  | 0, _, _, _ => none
  | n + 1, v5, v6, v7 =>
    if ((1 : Int32) <<< (((3 : Int32) * f2) &&& 31)) ≤ v7 then
      some (v5, v6)
    else
      (r_X11_worthOfRow S v7 f2).bind fun q2 =>
      if q2 ≤ v6 then
        lp_X11_suppers_82 S hs f2 f4 n v5 v6 (v7 + 1)
      else
        lp_X11_suppers_82 S hs f2 f4 n v7 q2 (v7 + 1)
set_option maxRecDepth 20000 in
set_option maxHeartbeats 4000000 in
theorem e_lp_X11_suppers_82 (d : Nat) (hs : List Hr) (P : Option Value → Hp → Prop) (S : St) (f2 : Int32) (f4 : Int32) : ∀ (n : Nat) (v5 : Int32) (v6 : Int32) (v7 : Int32) (q : Int32 × Int32), lp_X11_suppers_82 S hs f2 f4 n v5 v6 v7 = some q → (WM mi_X11_suppers (d + 7) P 122 [some (.ref 7), none, some (.int f2), none, some (.int f4), some (.int q.1), some (.int q.2), none, none] [] (st S hs)) → WM mi_X11_suppers (d + 7) P 82 [some (.ref 7), none, some (.int f2), none, some (.int f4), some (.int v5), some (.int v6), some (.int v7), none] [] (st S hs) := by
  intro n
  induction n with
  | zero =>
    intro v5 v6 v7 q hl
    cases hl
  | succ n ih =>
    intro v5 v6 v7 q hl ct
    rw [lp_X11_suppers_82] at hl
    refine Wp.stepsG 7 (fun cal X P' hk hX hP => ?_)
    show (((1 : Int32) <<< (((3 : Int32) * f2) &&& 31)) ≤ v7 → X (122, [some (.ref 7), none, some (.int f2), none, some (.int f4), some (.int v5), some (.int v6), some (.int v7), none], [], st S hs, 0, 0)) ∧ (¬ ((1 : Int32) <<< (((3 : Int32) * f2) &&& 31)) ≤ v7 → X (92, [some (.ref 7), none, some (.int f2), none, some (.int f4), some (.int v5), some (.int v6), some (.int v7), none], [], st S hs, 0, 0))
    refine ⟨fun hc => hX _ ?_, fun hc => hX _ ?_⟩
    · clear hP hX hk P' X cal
      rw [if_pos hc] at hl
      have hl := Option.some.inj hl
      subst hl
      exact Wp.weak (leL.k (leL.k (leL.k (leL.k (leL.k (leL.k (leL.k (leL.n (leL.k leL.z))))))))) (ct)
    · clear hP hX hk P' X cal
      rw [if_neg hc] at hl
      refine Wp.stepsG 4 (fun cal X P' hk hX hP => ?_)
      show kcall cal ix_X11_worthOfRow [.ref 7, .int v7, .int f2] (st S hs) [] 0 0 (0, 0) (fun v σ' c' m' => X (99, [some (.ref 7), none, some (.int f2), none, some (.int f4), some (.int v5), some (.int v6), some (.int v7), none], v.toList ++ [], σ', c', m'))
      obtain ⟨q2, hq2, hl⟩ := bd_some hl
      refine kcall0 rfl (hk _ _ _ _ _ _ (e_X11_worthOfRow (d + 4) S hs v7 f2 q2 hq2 _ ?_))
      show X (99, [some (.ref 7), none, some (.int f2), none, some (.int f4), some (.int v5), some (.int v6), some (.int v7), none], [.int q2], st S hs, 0, 0)
      refine hX _ ?_
      clear hP hX hk P' X cal
      refine Wp.stepsG 4 (fun cal X P' hk hX hP => ?_)
      show (q2 ≤ v6 → X (116, [some (.ref 7), none, some (.int f2), none, some (.int f4), some (.int v5), some (.int v6), some (.int v7), some (.int q2)], [], st S hs, 0, 0)) ∧ (¬ q2 ≤ v6 → X (108, [some (.ref 7), none, some (.int f2), none, some (.int f4), some (.int v5), some (.int v6), some (.int v7), some (.int q2)], [], st S hs, 0, 0))
      refine ⟨fun hc => hX _ ?_, fun hc => hX _ ?_⟩
      · clear hP hX hk P' X cal
        rw [if_pos hc] at hl
        refine Wp.stepsG 2 (fun cal X P' hk hX hP => ?_)
        show X (82, [some (.ref 7), none, some (.int f2), none, some (.int f4), some (.int v5), some (.int v6), some (.int (v7 + 1)), some (.int q2)], [], st S hs, 0, 0)
        refine hX _ ?_
        exact Wp.weak (leL.k (leL.k (leL.k (leL.k (leL.k (leL.k (leL.k (leL.k (leL.n leL.z))))))))) (ih v5 v6 (v7 + 1) q hl ct)
      · clear hP hX hk P' X cal
        rw [if_neg hc] at hl
        refine Wp.stepsG 6 (fun cal X P' hk hX hP => ?_)
        show X (82, [some (.ref 7), none, some (.int f2), none, some (.int f4), some (.int v7), some (.int q2), some (.int (v7 + 1)), some (.int q2)], [], st S hs, 0, 0)
        refine hX _ ?_
        exact Wp.weak (leL.k (leL.k (leL.k (leL.k (leL.k (leL.k (leL.k (leL.k (leL.n leL.z))))))))) (ih v7 q2 (v7 + 1) q hl ct)
def r_X11_suppers (S : St) (hs : List Hr) (a1 : Int32) (a2 : Int32) (a3 : Int32) (a4 : Int32) : Option (Int32 × St) :=
  if (r_X11_within a4 (-1) 2) = 0 then
    some ((-10001), S)
  else
    if (r_X11_isTable S a1) = 0 then
      some ((-10002), S)
    else
      if (r_X11_within a2 1 3) = 0 then
        some ((-10002), S)
      else
        if (r_X11_within a3 1 30) = 0 then
          some ((-10002), S)
        else
          if a2 ≤ a4 then
            some ((-10005), S)
          else
            if (S.1 8 2) = 0 then
              some ((-10005), S)
            else
              (r_X11_weighSuppers S hs a1 a2 a3).bind fun q1 =>
              (lp_X11_suppers_82 q1.2 hs a2 a4 4000 0 (-1000000) 0).bind fun q3 =>
                if 0 ≤ a4 then
                  some (r_X11_storyInRow q3.1 a2 a4, q1.2)
                else
                  some (q3.2, q1.2)
set_option maxRecDepth 20000 in
set_option maxHeartbeats 4000000 in
theorem e_X11_suppers (d : Nat) (S : St) (hs : List Hr) (a1 : Int32) (a2 : Int32) (a3 : Int32) (a4 : Int32) (v : Int32 × St) (hr : r_X11_suppers S hs a1 a2 a3 a4 = some v) (P : Option Value → Hp → Prop) (h : P (some (.int v.1)) (st v.2 hs)) : Ev (d + 8) ix_X11_suppers 0 0 [.ref 7, .int a1, .int a2, .int a3, .int a4] (st S hs) P := by
  refine Ev.intro (M := mi_X11_suppers) rfl (Nat.le_of_ble_eq_true rfl) ?_
  unfold r_X11_suppers at hr
  refine Wp.stepsG 4 (fun cal X P' hk hX hP => ?_)
  show kcall cal ix_X11_within [.int a4, .int (-1), .int 2] (st S hs) [] 0 0 (0, 0) (fun v σ' c' m' => X (7, [some (.ref 7), some (.int a1), some (.int a2), some (.int a3), some (.int a4), none, none, none, none], v.toList ++ [], σ', c', m'))
  refine kcall0 rfl (hk _ _ _ _ _ _ (e_X11_within (d + 6) S hs a4 (-1) 2 _ ?_))
  show X (7, [some (.ref 7), some (.int a1), some (.int a2), some (.int a3), some (.int a4), none, none, none, none], [.int (r_X11_within a4 (-1) 2)], st S hs, 0, 0)
  refine hX _ ?_
  clear hP hX hk P' X cal
  refine Wp.stepsG 1 (fun cal X P' hk hX hP => ?_)
  show (¬ (r_X11_within a4 (-1) 2) = 0 → X (14, [some (.ref 7), some (.int a1), some (.int a2), some (.int a3), some (.int a4), none, none, none, none], [], st S hs, 0, 0)) ∧ ((r_X11_within a4 (-1) 2) = 0 → X (10, [some (.ref 7), some (.int a1), some (.int a2), some (.int a3), some (.int a4), none, none, none, none], [], st S hs, 0, 0))
  refine ⟨fun hc => hX _ ?_, fun hc => hX _ ?_⟩
  · clear hP hX hk P' X cal
    rw [if_neg hc] at hr
    refine Wp.stepsG 3 (fun cal X P' hk hX hP => ?_)
    show kcall cal ix_X11_isTable [.ref 7, .int a1] (st S hs) [] 0 0 (0, 0) (fun v σ' c' m' => X (19, [some (.ref 7), some (.int a1), some (.int a2), some (.int a3), some (.int a4), none, none, none, none], v.toList ++ [], σ', c', m'))
    refine kcall0 rfl (hk _ _ _ _ _ _ (e_X11_isTable (d + 5) S hs a1 _ ?_))
    show X (19, [some (.ref 7), some (.int a1), some (.int a2), some (.int a3), some (.int a4), none, none, none, none], [.int (r_X11_isTable S a1)], st S hs, 0, 0)
    refine hX _ ?_
    clear hP hX hk P' X cal
    refine Wp.stepsG 1 (fun cal X P' hk hX hP => ?_)
    show ((r_X11_isTable S a1) = 0 → X (41, [some (.ref 7), some (.int a1), some (.int a2), some (.int a3), some (.int a4), none, none, none, none], [], st S hs, 0, 0)) ∧ (¬ (r_X11_isTable S a1) = 0 → X (22, [some (.ref 7), some (.int a1), some (.int a2), some (.int a3), some (.int a4), none, none, none, none], [], st S hs, 0, 0))
    refine ⟨fun hc => hX _ ?_, fun hc => hX _ ?_⟩
    · clear hP hX hk P' X cal
      rw [if_pos hc] at hr
      have hr := Option.some.inj hr
      subst hr
      refine Wp.stepsG 2 (fun cal X P' hk hX hP => ?_)
      exact hP _ _ h
    · clear hP hX hk P' X cal
      rw [if_neg hc] at hr
      refine Wp.stepsG 4 (fun cal X P' hk hX hP => ?_)
      show kcall cal ix_X11_within [.int a2, .int 1, .int 3] (st S hs) [] 0 0 (0, 0) (fun v σ' c' m' => X (28, [some (.ref 7), some (.int a1), some (.int a2), some (.int a3), some (.int a4), none, none, none, none], v.toList ++ [], σ', c', m'))
      refine kcall0 rfl (hk _ _ _ _ _ _ (e_X11_within (d + 6) S hs a2 1 3 _ ?_))
      show X (28, [some (.ref 7), some (.int a1), some (.int a2), some (.int a3), some (.int a4), none, none, none, none], [.int (r_X11_within a2 1 3)], st S hs, 0, 0)
      refine hX _ ?_
      clear hP hX hk P' X cal
      refine Wp.stepsG 1 (fun cal X P' hk hX hP => ?_)
      show ((r_X11_within a2 1 3) = 0 → X (41, [some (.ref 7), some (.int a1), some (.int a2), some (.int a3), some (.int a4), none, none, none, none], [], st S hs, 0, 0)) ∧ (¬ (r_X11_within a2 1 3) = 0 → X (31, [some (.ref 7), some (.int a1), some (.int a2), some (.int a3), some (.int a4), none, none, none, none], [], st S hs, 0, 0))
      refine ⟨fun hc => hX _ ?_, fun hc => hX _ ?_⟩
      · clear hP hX hk P' X cal
        rw [if_pos hc] at hr
        have hr := Option.some.inj hr
        subst hr
        refine Wp.stepsG 2 (fun cal X P' hk hX hP => ?_)
        exact hP _ _ h
      · clear hP hX hk P' X cal
        rw [if_neg hc] at hr
        refine Wp.stepsG 4 (fun cal X P' hk hX hP => ?_)
        show kcall cal ix_X11_within [.int a3, .int 1, .int 30] (st S hs) [] 0 0 (0, 0) (fun v σ' c' m' => X (38, [some (.ref 7), some (.int a1), some (.int a2), some (.int a3), some (.int a4), none, none, none, none], v.toList ++ [], σ', c', m'))
        refine kcall0 rfl (hk _ _ _ _ _ _ (e_X11_within (d + 6) S hs a3 1 30 _ ?_))
        show X (38, [some (.ref 7), some (.int a1), some (.int a2), some (.int a3), some (.int a4), none, none, none, none], [.int (r_X11_within a3 1 30)], st S hs, 0, 0)
        refine hX _ ?_
        clear hP hX hk P' X cal
        refine Wp.stepsG 1 (fun cal X P' hk hX hP => ?_)
        show (¬ (r_X11_within a3 1 30) = 0 → X (45, [some (.ref 7), some (.int a1), some (.int a2), some (.int a3), some (.int a4), none, none, none, none], [], st S hs, 0, 0)) ∧ ((r_X11_within a3 1 30) = 0 → X (41, [some (.ref 7), some (.int a1), some (.int a2), some (.int a3), some (.int a4), none, none, none, none], [], st S hs, 0, 0))
        refine ⟨fun hc => hX _ ?_, fun hc => hX _ ?_⟩
        · clear hP hX hk P' X cal
          rw [if_neg hc] at hr
          refine Wp.stepsG 3 (fun cal X P' hk hX hP => ?_)
          show (a2 ≤ a4 → X (61, [some (.ref 7), some (.int a1), some (.int a2), some (.int a3), some (.int a4), none, none, none, none], [], st S hs, 0, 0)) ∧ (¬ a2 ≤ a4 → X (51, [some (.ref 7), some (.int a1), some (.int a2), some (.int a3), some (.int a4), none, none, none, none], [], st S hs, 0, 0))
          refine ⟨fun hc => hX _ ?_, fun hc => hX _ ?_⟩
          · clear hP hX hk P' X cal
            rw [if_pos hc] at hr
            have hr := Option.some.inj hr
            subst hr
            refine Wp.stepsG 2 (fun cal X P' hk hX hP => ?_)
            exact hP _ _ h
          · clear hP hX hk P' X cal
            rw [if_neg hc] at hr
            refine Wp.stepsG 4 (fun cal X P' hk hX hP => ?_)
            show (¬ (S.1 8 2) = 0 → X (65, [some (.ref 7), some (.int a1), some (.int a2), some (.int a3), some (.int a4), none, none, none, none], [], st S hs, 0, 0)) ∧ ((S.1 8 2) = 0 → X (61, [some (.ref 7), some (.int a1), some (.int a2), some (.int a3), some (.int a4), none, none, none, none], [], st S hs, 0, 0))
            refine ⟨fun hc => hX _ ?_, fun hc => hX _ ?_⟩
            · clear hP hX hk P' X cal
              rw [if_neg hc] at hr
              refine Wp.stepsG 5 (fun cal X P' hk hX hP => ?_)
              show kcall cal ix_X11_weighSuppers [.ref 7, .int a1, .int a2, .int a3] (st S hs) [] 0 0 (0, 0) (fun v σ' c' m' => X (72, [some (.ref 7), some (.int a1), some (.int a2), some (.int a3), some (.int a4), none, none, none, none], v.toList ++ [], σ', c', m'))
              obtain ⟨q1, hq1, hr⟩ := bd_some hr
              refine kcall0 rfl (hk _ _ _ _ _ _ (e_X11_weighSuppers (d + 0) S hs a1 a2 a3 q1 hq1 _ ?_))
              show X (72, [some (.ref 7), some (.int a1), some (.int a2), some (.int a3), some (.int a4), none, none, none, none], [], st q1.2 hs, 0, 0)
              refine hX _ ?_
              clear hP hX hk P' X cal
              refine Wp.stepsG 6 (fun cal X P' hk hX hP => ?_)
              show X (82, [some (.ref 7), some (.int a1), some (.int a2), some (.int a3), some (.int a4), some (.int 0), some (.int (-1000000)), some (.int 0), none], [], st q1.2 hs, 0, 0)
              refine hX _ ?_
              clear hP hX hk P' X cal
              obtain ⟨q3, hq3, hr⟩ := bd_some hr
              refine Wp.weak (leL.k (leL.n (leL.k (leL.n (leL.k (leL.k (leL.k (leL.k (leL.k leL.z))))))))) (e_lp_X11_suppers_82 d hs P q1.2 a2 a4 _ 0 (-1000000) 0 q3 hq3 ?_)
              refine Wp.stepsG 2 (fun cal X P' hk hX hP => ?_)
              show (0 ≤ a4 → X (132, [some (.ref 7), none, some (.int a2), none, some (.int a4), some (.int q3.1), some (.int q3.2), none, none], [], st q1.2 hs, 0, 0)) ∧ (¬ 0 ≤ a4 → X (127, [some (.ref 7), none, some (.int a2), none, some (.int a4), some (.int q3.1), some (.int q3.2), none, none], [], st q1.2 hs, 0, 0))
              refine ⟨fun hc => hX _ ?_, fun hc => hX _ ?_⟩
              · clear hP hX hk P' X cal
                rw [if_pos hc] at hr
                refine Wp.stepsG 4 (fun cal X P' hk hX hP => ?_)
                show kcall cal ix_X11_storyInRow [.int q3.1, .int a2, .int a4] (st q1.2 hs) [] 0 0 (0, 0) (fun v σ' c' m' => X (140, [some (.ref 7), none, some (.int a2), none, some (.int a4), some (.int q3.1), some (.int q3.2), none, none], v.toList ++ [], σ', c', m'))
                refine kcall0 rfl (hk _ _ _ _ _ _ (e_X11_storyInRow (d + 6) q1.2 hs q3.1 a2 a4 _ ?_))
                show X (140, [some (.ref 7), none, some (.int a2), none, some (.int a4), some (.int q3.1), some (.int q3.2), none, none], [.int (r_X11_storyInRow q3.1 a2 a4)], st q1.2 hs, 0, 0)
                refine hX _ ?_
                clear hP hX hk P' X cal
                have hr := Option.some.inj hr
                subst hr
                refine Wp.stepsG 1 (fun cal X P' hk hX hP => ?_)
                exact hP _ _ h
              · clear hP hX hk P' X cal
                rw [if_neg hc] at hr
                have hr := Option.some.inj hr
                subst hr
                refine Wp.stepsG 3 (fun cal X P' hk hX hP => ?_)
                exact hP _ _ h
            · clear hP hX hk P' X cal
              rw [if_pos hc] at hr
              have hr := Option.some.inj hr
              subst hr
              refine Wp.stepsG 2 (fun cal X P' hk hX hP => ?_)
              exact hP _ _ h
        · clear hP hX hk P' X cal
          rw [if_pos hc] at hr
          have hr := Option.some.inj hr
          subst hr
          refine Wp.stepsG 2 (fun cal X P' hk hX hP => ?_)
          exact hP _ _ h
  · clear hP hX hk P' X cal
    rw [if_pos hc] at hr
    have hr := Option.some.inj hr
    subst hr
    refine Wp.stepsG 2 (fun cal X P' hk hX hP => ?_)
    exact hP _ _ h
def r_X11_seats (S : St) (hs : List Hr) (a1 : Int32) (a2 : Int32) : Option (Int32 × St) :=
  if (r_X11_isStory S a1) = 0 then
    some ((-1), S)
  else
    if (r_X11_within a2 (-1) 5) = 0 then
      some ((-1), S)
    else
      if a2 < (S.1 8 3) then
        (r_X11_knowersThen S hs a1 (r_X11_everybody S) (S.1 8 0)).bind fun q1 =>
        (r_X11_findSeats S q1).bind fun q2 =>
        if 0 ≤ a2 then
          gd (¬ (a2 < 0 ∨ 6 ≤ a2.toNatClampNeg)) (
            some ((q2.2.1 39) a2.toNatClampNeg, q2.2))
        else
          some (q2.1, q2.2)
      else
        some ((-5), S)
set_option maxRecDepth 20000 in
set_option maxHeartbeats 4000000 in
theorem e_X11_seats (d : Nat) (S : St) (hs : List Hr) (a1 : Int32) (a2 : Int32) (v : Int32 × St) (hr : r_X11_seats S hs a1 a2 = some v) (P : Option Value → Hp → Prop) (h : P (some (.int v.1)) (st v.2 hs)) : Ev (d + 6) ix_X11_seats 0 0 [.ref 7, .int a1, .int a2] (st S hs) P := by
  refine Ev.intro (M := mi_X11_seats) rfl (Nat.le_of_ble_eq_true rfl) ?_
  unfold r_X11_seats at hr
  refine Wp.stepsG 3 (fun cal X P' hk hX hP => ?_)
  show kcall cal ix_X11_isStory [.ref 7, .int a1] (st S hs) [] 0 0 (0, 0) (fun v σ' c' m' => X (5, [some (.ref 7), some (.int a1), some (.int a2), none], v.toList ++ [], σ', c', m'))
  refine kcall0 rfl (hk _ _ _ _ _ _ (e_X11_isStory (d + 3) S hs a1 _ ?_))
  show X (5, [some (.ref 7), some (.int a1), some (.int a2), none], [.int (r_X11_isStory S a1)], st S hs, 0, 0)
  refine hX _ ?_
  clear hP hX hk P' X cal
  refine Wp.stepsG 1 (fun cal X P' hk hX hP => ?_)
  show ((r_X11_isStory S a1) = 0 → X (17, [some (.ref 7), some (.int a1), some (.int a2), none], [], st S hs, 0, 0)) ∧ (¬ (r_X11_isStory S a1) = 0 → X (8, [some (.ref 7), some (.int a1), some (.int a2), none], [], st S hs, 0, 0))
  refine ⟨fun hc => hX _ ?_, fun hc => hX _ ?_⟩
  · clear hP hX hk P' X cal
    rw [if_pos hc] at hr
    have hr := Option.some.inj hr
    subst hr
    refine Wp.stepsG 2 (fun cal X P' hk hX hP => ?_)
    exact hP _ _ h
  · clear hP hX hk P' X cal
    rw [if_neg hc] at hr
    refine Wp.stepsG 4 (fun cal X P' hk hX hP => ?_)
    show kcall cal ix_X11_within [.int a2, .int (-1), .int 5] (st S hs) [] 0 0 (0, 0) (fun v σ' c' m' => X (14, [some (.ref 7), some (.int a1), some (.int a2), none], v.toList ++ [], σ', c', m'))
    refine kcall0 rfl (hk _ _ _ _ _ _ (e_X11_within (d + 4) S hs a2 (-1) 5 _ ?_))
    show X (14, [some (.ref 7), some (.int a1), some (.int a2), none], [.int (r_X11_within a2 (-1) 5)], st S hs, 0, 0)
    refine hX _ ?_
    clear hP hX hk P' X cal
    refine Wp.stepsG 1 (fun cal X P' hk hX hP => ?_)
    show (¬ (r_X11_within a2 (-1) 5) = 0 → X (19, [some (.ref 7), some (.int a1), some (.int a2), none], [], st S hs, 0, 0)) ∧ ((r_X11_within a2 (-1) 5) = 0 → X (17, [some (.ref 7), some (.int a1), some (.int a2), none], [], st S hs, 0, 0))
    refine ⟨fun hc => hX _ ?_, fun hc => hX _ ?_⟩
    · clear hP hX hk P' X cal
      rw [if_neg hc] at hr
      refine Wp.stepsG 5 (fun cal X P' hk hX hP => ?_)
      show (a2 < (S.1 8 3) → X (33, [some (.ref 7), some (.int a1), some (.int a2), none], [], st S hs, 0, 0)) ∧ (¬ a2 < (S.1 8 3) → X (30, [some (.ref 7), some (.int a1), some (.int a2), none], [], st S hs, 0, 0))
      refine ⟨fun hc => hX _ ?_, fun hc => hX _ ?_⟩
      · clear hP hX hk P' X cal
        rw [if_pos hc] at hr
        refine Wp.stepsG 5 (fun cal X P' hk hX hP => ?_)
        show kcall cal ix_X11_everybody [.ref 7] (st S hs) [.int a1, .ref 7, .ref 7] 0 0 (0, 0) (fun v σ' c' m' => X (40, [some (.ref 7), some (.int a1), some (.int a2), none], v.toList ++ [.int a1, .ref 7, .ref 7], σ', c', m'))
        refine kcall0 rfl (hk _ _ _ _ _ _ (e_X11_everybody (d + 4) S hs _ ?_))
        show X (40, [some (.ref 7), some (.int a1), some (.int a2), none], [.int (r_X11_everybody S), .int a1, .ref 7, .ref 7], st S hs, 0, 0)
        refine hX _ ?_
        clear hP hX hk P' X cal
        refine Wp.stepsG 4 (fun cal X P' hk hX hP => ?_)
        show kcall cal ix_X11_knowersThen [.ref 7, .int a1, .int (r_X11_everybody S), .int (S.1 8 0)] (st S hs) [.ref 7] 0 0 (0, 0) (fun v σ' c' m' => X (50, [some (.ref 7), some (.int a1), some (.int a2), none], v.toList ++ [.ref 7], σ', c', m'))
        obtain ⟨q1, hq1, hr⟩ := bd_some hr
        refine kcall0 rfl (hk _ _ _ _ _ _ (e_X11_knowersThen (d + 0) S hs a1 (r_X11_everybody S) (S.1 8 0) q1 hq1 _ ?_))
        show X (50, [some (.ref 7), some (.int a1), some (.int a2), none], [.int q1, .ref 7], st S hs, 0, 0)
        refine hX _ ?_
        clear hP hX hk P' X cal
        refine Wp.stepsG 1 (fun cal X P' hk hX hP => ?_)
        show kcall cal ix_X11_findSeats [.ref 7, .int q1] (st S hs) [] 0 0 (0, 0) (fun v σ' c' m' => X (53, [some (.ref 7), some (.int a1), some (.int a2), none], v.toList ++ [], σ', c', m'))
        obtain ⟨q2, hq2, hr⟩ := bd_some hr
        refine kcall0 rfl (hk _ _ _ _ _ _ (e_X11_findSeats (d + 2) S hs q1 q2 hq2 _ ?_))
        show X (53, [some (.ref 7), some (.int a1), some (.int a2), none], [.int q2.1], st q2.2 hs, 0, 0)
        refine hX _ ?_
        clear hP hX hk P' X cal
        refine Wp.stepsG 3 (fun cal X P' hk hX hP => ?_)
        show (0 ≤ a2 → X (62, [some (.ref 7), some (.int a1), some (.int a2), some (.int q2.1)], [], st q2.2 hs, 0, 0)) ∧ (¬ 0 ≤ a2 → X (58, [some (.ref 7), some (.int a1), some (.int a2), some (.int q2.1)], [], st q2.2 hs, 0, 0))
        refine ⟨fun hc => hX _ ?_, fun hc => hX _ ?_⟩
        · clear hP hX hk P' X cal
          rw [if_pos hc] at hr
          refine Wp.stepsG 4 (fun cal X P' hk hX hP => ?_)
          show vp_in a2 6 ∧ X (68, [some (.ref 7), some (.int a1), some (.int a2), some (.int q2.1)], [.int ((q2.2.1 39) a2.toNatClampNeg)], st q2.2 hs, 0, 0)
          obtain ⟨hg, hr⟩ := gd_some hr
          refine ⟨hg, hX _ ?_⟩
          clear hP hX hk P' X cal
          have hr := Option.some.inj hr
          subst hr
          refine Wp.stepsG 1 (fun cal X P' hk hX hP => ?_)
          exact hP _ _ h
        · clear hP hX hk P' X cal
          rw [if_neg hc] at hr
          have hr := Option.some.inj hr
          subst hr
          refine Wp.stepsG 3 (fun cal X P' hk hX hP => ?_)
          exact hP _ _ h
      · clear hP hX hk P' X cal
        rw [if_neg hc] at hr
        have hr := Option.some.inj hr
        subst hr
        refine Wp.stepsG 2 (fun cal X P' hk hX hP => ?_)
        exact hP _ _ h
    · clear hP hX hk P' X cal
      rw [if_pos hc] at hr
      have hr := Option.some.inj hr
      subst hr
      refine Wp.stepsG 2 (fun cal X P' hk hX hP => ?_)
      exact hP _ _ h
def lp_X11_spared_65 (S : St) (hs : List Hr) (f2 : Int32) : Nat → Int32 → Int32 → Option (Int32)
  | 0, _, _ => none
  | n + 1, v3, v4 =>
    if ((1 : Int32) <<< ((S.1 8 2) &&& 31)) ≤ v4 then
      some v3
    else
      if (r_J6_bitCount_0f7a4 v4) = f2 then
        (r_X11_sumOf_34 S v4).bind fun q4 =>
        lp_X11_spared_65 S hs f2 n (if q4 < v3 then q4 else v3) (v4 + 1)
      else
        lp_X11_spared_65 S hs f2 n v3 (v4 + 1)
set_option maxRecDepth 20000 in
set_option maxHeartbeats 4000000 in
theorem e_lp_X11_spared_65 (d : Nat) (hs : List Hr) (P : Option Value → Hp → Prop) (S : St) (f2 : Int32) : ∀ (n : Nat) (v3 : Int32) (v4 : Int32) (q : Int32), lp_X11_spared_65 S hs f2 n v3 v4 = some q → (WM mi_X11_spared (d + 7) P 108 [some (.ref 7), none, some (.int f2), some (.int q), none] [] (st S hs)) → WM mi_X11_spared (d + 7) P 65 [some (.ref 7), none, some (.int f2), some (.int v3), some (.int v4)] [] (st S hs) := by
  intro n
  induction n with
  | zero =>
    intro v3 v4 q hl
    cases hl
  | succ n ih =>
    intro v3 v4 q hl ct
    rw [lp_X11_spared_65] at hl
    refine Wp.stepsG 7 (fun cal X P' hk hX hP => ?_)
    show (((1 : Int32) <<< ((S.1 8 2) &&& 31)) ≤ v4 → X (108, [some (.ref 7), none, some (.int f2), some (.int v3), some (.int v4)], [], st S hs, 0, 0)) ∧ (¬ ((1 : Int32) <<< ((S.1 8 2) &&& 31)) ≤ v4 → X (79, [some (.ref 7), none, some (.int f2), some (.int v3), some (.int v4)], [], st S hs, 0, 0))
    refine ⟨fun hc => hX _ ?_, fun hc => hX _ ?_⟩
    · clear hP hX hk P' X cal
      rw [if_pos hc] at hl
      have hl := Option.some.inj hl
      subst hl
      exact Wp.weak (leL.k (leL.k (leL.k (leL.k (leL.n leL.z))))) (ct)
    · clear hP hX hk P' X cal
      rw [if_neg hc] at hl
      refine Wp.stepsG 2 (fun cal X P' hk hX hP => ?_)
      show kcall cal ix_J6_bitCount_0f7a4 [.int v4] (st S hs) [] 0 0 (0, 0) (fun v σ' c' m' => X (84, [some (.ref 7), none, some (.int f2), some (.int v3), some (.int v4)], v.toList ++ [], σ', c', m'))
      refine kcall0 rfl (hk _ _ _ _ _ _ (e_J6_bitCount_0f7a4 (d + 6) S hs v4 _ ?_))
      show X (84, [some (.ref 7), none, some (.int f2), some (.int v3), some (.int v4)], [.int (r_J6_bitCount_0f7a4 v4)], st S hs, 0, 0)
      refine hX _ ?_
      clear hP hX hk P' X cal
      refine Wp.stepsG 2 (fun cal X P' hk hX hP => ?_)
      show (¬ (r_J6_bitCount_0f7a4 v4) = f2 → X (102, [some (.ref 7), none, some (.int f2), some (.int v3), some (.int v4)], [], st S hs, 0, 0)) ∧ ((r_J6_bitCount_0f7a4 v4) = f2 → X (88, [some (.ref 7), none, some (.int f2), some (.int v3), some (.int v4)], [], st S hs, 0, 0))
      refine ⟨fun hc => hX _ ?_, fun hc => hX _ ?_⟩
      · clear hP hX hk P' X cal
        rw [if_neg hc] at hl
        refine Wp.stepsG 2 (fun cal X P' hk hX hP => ?_)
        show X (65, [some (.ref 7), none, some (.int f2), some (.int v3), some (.int (v4 + 1))], [], st S hs, 0, 0)
        refine hX _ ?_
        exact (ih v3 (v4 + 1) q hl ct)
      · clear hP hX hk P' X cal
        rw [if_pos hc] at hl
        refine Wp.stepsG 5 (fun cal X P' hk hX hP => ?_)
        show kcall cal ix_X11_sumOf [.ref 34, .int v4] (st S hs) [.int v3] 0 0 (0, 0) (fun v σ' c' m' => X (98, [some (.ref 7), none, some (.int f2), some (.int v3), some (.int v4)], v.toList ++ [.int v3], σ', c', m'))
        obtain ⟨q4, hq4, hl⟩ := bd_some hl
        refine kcall0 rfl (hk _ _ _ _ _ _ (e_X11_sumOf_34 (d + 5) S hs v4 q4 hq4 _ ?_))
        show X (98, [some (.ref 7), none, some (.int f2), some (.int v3), some (.int v4)], [.int q4, .int v3], st S hs, 0, 0)
        refine hX _ ?_
        clear hP hX hk P' X cal
        refine Wp.stepsG 4 (fun cal X P' hk hX hP => ?_)
        show X (65, [some (.ref 7), none, some (.int f2), some (.int (if q4 < v3 then q4 else v3)), some (.int (v4 + 1))], [], st S hs, 0, 0)
        refine hX _ ?_
        exact (ih (if q4 < v3 then q4 else v3) (v4 + 1) q hl ct)
def r_X11_spared (S : St) (hs : List Hr) (a1 : Int32) (a2 : Int32) : Option (Int32 × St) :=
  (r_X11_hearerAt S a1).bind fun q1 =>
  oH hs (q1) (
    some ((-10001), S)) (fun zb2 =>
    if (r_X11_within a2 0 8) = 0 then
      some ((-10002), S)
    else
      if a2 ≤ (S.1 8 2) then
        (r_X11_weigh_34 S hs ((1 : Int32) <<< (a1 &&& 31)) (S.1 8 0)).bind fun q3 =>
        (lp_X11_spared_65 q3.2 hs a2 4000 1000000 0).bind fun q5 =>
          some (q5, q3.2)
      else
        some ((-10005), S))
set_option maxRecDepth 20000 in
set_option maxHeartbeats 4000000 in
theorem e_X11_spared (d : Nat) (S : St) (hs : List Hr) (a1 : Int32) (a2 : Int32) (v : Int32 × St) (hr : r_X11_spared S hs a1 a2 = some v) (P : Option Value → Hp → Prop) (h : P (some (.int v.1)) (st v.2 hs)) : Ev (d + 8) ix_X11_spared 0 0 [.ref 7, .int a1, .int a2] (st S hs) P := by
  refine Ev.intro (M := mi_X11_spared) rfl (Nat.le_of_ble_eq_true rfl) ?_
  unfold r_X11_spared at hr
  refine Wp.stepsG 3 (fun cal X P' hk hX hP => ?_)
  show kcall cal ix_X11_hearerAt [.ref 7, .int a1] (st S hs) [] 0 0 (0, 0) (fun v σ' c' m' => X (5, [some (.ref 7), some (.int a1), some (.int a2), none, none], v.toList ++ [], σ', c', m'))
  obtain ⟨q1, hq1, hr⟩ := bd_some hr
  refine kcall0 rfl (hk _ _ _ _ _ _ (e_X11_hearerAt (d + 5) S hs a1 q1 hq1 _ ?_))
  show X (5, [some (.ref 7), some (.int a1), some (.int a2), none, none], [va_rf q1], st S hs, 0, 0)
  refine hX _ ?_
  clear hP hX hk P' X cal
  rcases oH_some hr with ⟨hz, hr⟩ | ⟨b2, zb2, hz, hb2, fb2, hr⟩
  · rw [hz]
    have hr := Option.some.inj hr
    subst hr
    refine Wp.stepsG 3 (fun cal X P' hk hX hP => ?_)
    exact hP _ _ h
  · rw [hz]
    refine Wp.stepsG 5 (fun cal X P' hk hX hP => ?_)
    show kcall cal ix_X11_within [.int a2, .int 0, .int 8] (st S hs) [] 0 0 (0, 0) (fun v σ' c' m' => X (19, [some (.ref 7), some (.int a1), some (.int a2), none, none], v.toList ++ [], σ', c', m'))
    refine kcall0 rfl (hk _ _ _ _ _ _ (e_X11_within (d + 6) S hs a2 0 8 _ ?_))
    show X (19, [some (.ref 7), some (.int a1), some (.int a2), none, none], [.int (r_X11_within a2 0 8)], st S hs, 0, 0)
    refine hX _ ?_
    clear hP hX hk P' X cal
    refine Wp.stepsG 1 (fun cal X P' hk hX hP => ?_)
    show (¬ (r_X11_within a2 0 8) = 0 → X (26, [some (.ref 7), some (.int a1), some (.int a2), none, none], [], st S hs, 0, 0)) ∧ ((r_X11_within a2 0 8) = 0 → X (22, [some (.ref 7), some (.int a1), some (.int a2), none, none], [], st S hs, 0, 0))
    refine ⟨fun hc => hX _ ?_, fun hc => hX _ ?_⟩
    · clear hP hX hk P' X cal
      rw [if_neg hc] at hr
      refine Wp.stepsG 5 (fun cal X P' hk hX hP => ?_)
      show (a2 ≤ (S.1 8 2) → X (41, [some (.ref 7), some (.int a1), some (.int a2), none, none], [], st S hs, 0, 0)) ∧ (¬ a2 ≤ (S.1 8 2) → X (37, [some (.ref 7), some (.int a1), some (.int a2), none, none], [], st S hs, 0, 0))
      refine ⟨fun hc => hX _ ?_, fun hc => hX _ ?_⟩
      · clear hP hX hk P' X cal
        rw [if_pos hc] at hr
        refine Wp.stepsG 10 (fun cal X P' hk hX hP => ?_)
        show kcall cal ix_X11_weigh [.ref 7, .ref 34, .int ((1 : Int32) <<< (a1 &&& 31)), .int (S.1 8 0)] (st S hs) [] 0 0 (0, 0) (fun v σ' c' m' => X (59, [some (.ref 7), some (.int a1), some (.int a2), none, none], v.toList ++ [], σ', c', m'))
        obtain ⟨q3, hq3, hr⟩ := bd_some hr
        refine kcall0 rfl (hk _ _ _ _ _ _ (e_X11_weigh_34 (d + 0) S hs ((1 : Int32) <<< (a1 &&& 31)) (S.1 8 0) q3 hq3 _ ?_))
        show X (59, [some (.ref 7), some (.int a1), some (.int a2), none, none], [], st q3.2 hs, 0, 0)
        refine hX _ ?_
        clear hP hX hk P' X cal
        refine Wp.stepsG 4 (fun cal X P' hk hX hP => ?_)
        show X (65, [some (.ref 7), some (.int a1), some (.int a2), some (.int 1000000), some (.int 0)], [], st q3.2 hs, 0, 0)
        refine hX _ ?_
        clear hP hX hk P' X cal
        obtain ⟨q5, hq5, hr⟩ := bd_some hr
        refine Wp.weak (leL.k (leL.n (leL.k (leL.k (leL.k leL.z))))) (e_lp_X11_spared_65 d hs P q3.2 a2 _ 1000000 0 q5 hq5 ?_)
        have hr := Option.some.inj hr
        subst hr
        refine Wp.stepsG 2 (fun cal X P' hk hX hP => ?_)
        exact hP _ _ h
      · clear hP hX hk P' X cal
        rw [if_neg hc] at hr
        have hr := Option.some.inj hr
        subst hr
        refine Wp.stepsG 2 (fun cal X P' hk hX hP => ?_)
        exact hP _ _ h
    · clear hP hX hk P' X cal
      rw [if_pos hc] at hr
      have hr := Option.some.inj hr
      subst hr
      refine Wp.stepsG 2 (fun cal X P' hk hX hP => ?_)
      exact hP _ _ h
def lp_X11_guess_14 (hs : List Hr) (f1 : Int32) : Nat → Int32 → Int32 → St → Option (Int32 × St)
  | 0, _, _, _ => none
  | n + 1, v2, v3, S =>
    if (S.1 8 4) ≤ v3 then
      some (v2, S)
    else
      gd (¬ (v3 < 0 ∨ 6 ≤ v3.toNatClampNeg)) (
        gd (¬ (v3 < 0 ∨ 6 ≤ v3.toNatClampNeg)) (
          if (r_X11_in ((S.1 16) v3.toNatClampNeg) f1) = 0 then
            lp_X11_guess_14 hs f1 n v2 (v3 + 1) S
          else
            (r_X11_laughNow S hs f1 ((S.1 15) v3.toNatClampNeg)).bind fun q3 =>
            if q3.1 < 0 then
              lp_X11_guess_14 hs f1 n v2 (v3 + 1) q3.2
            else
              lp_X11_guess_14 hs f1 n (v2 ||| ((1 : Int32) <<< (((S.1 15) v3.toNatClampNeg) &&& 31))) (v3 + 1) q3.2))
set_option maxRecDepth 20000 in
set_option maxHeartbeats 4000000 in
theorem e_lp_X11_guess_14 (d : Nat) (hs : List Hr) (P : Option Value → Hp → Prop) (f1 : Int32) : ∀ (n : Nat) (v2 : Int32) (v3 : Int32) (S : St) (q : Int32 × St), lp_X11_guess_14 hs f1 n v2 v3 S = some q → (WM mi_X11_guess (d + 6) P 75 [some (.ref 7), some (.int f1), some (.int q.1), none, none] [] (st q.2 hs)) → WM mi_X11_guess (d + 6) P 14 [some (.ref 7), some (.int f1), some (.int v2), some (.int v3), none] [] (st S hs) := by
  intro n
  induction n with
  | zero =>
    intro v2 v3 S q hl
    cases hl
  | succ n ih =>
    intro v2 v3 S q hl ct
    rw [lp_X11_guess_14] at hl
    refine Wp.stepsG 5 (fun cal X P' hk hX hP => ?_)
    show ((S.1 8 4) ≤ v3 → X (75, [some (.ref 7), some (.int f1), some (.int v2), some (.int v3), none], [], st S hs, 0, 0)) ∧ (¬ (S.1 8 4) ≤ v3 → X (25, [some (.ref 7), some (.int f1), some (.int v2), some (.int v3), none], [], st S hs, 0, 0))
    refine ⟨fun hc => hX _ ?_, fun hc => hX _ ?_⟩
    · clear hP hX hk P' X cal
      rw [if_pos hc] at hl
      have hl := Option.some.inj hl
      subst hl
      exact Wp.weak (leL.k (leL.k (leL.k (leL.n (leL.k leL.z))))) (ct)
    · clear hP hX hk P' X cal
      rw [if_neg hc] at hl
      refine Wp.stepsG 5 (fun cal X P' hk hX hP => ?_)
      show vp_in v3 6 ∧ X (34, [some (.ref 7), some (.int f1), some (.int v2), some (.int v3), none], [.int ((S.1 15) v3.toNatClampNeg)], st S hs, 0, 0)
      obtain ⟨hg, hl⟩ := gd_some hl
      refine ⟨hg, hX _ ?_⟩
      clear hP hX hk P' X cal
      refine Wp.stepsG 6 (fun cal X P' hk hX hP => ?_)
      show vp_in v3 6 ∧ X (45, [some (.ref 7), some (.int f1), some (.int v2), some (.int v3), some (.int ((S.1 15) v3.toNatClampNeg))], [.int ((S.1 16) v3.toNatClampNeg)], st S hs, 0, 0)
      obtain ⟨hg, hl⟩ := gd_some hl
      refine ⟨hg, hX _ ?_⟩
      clear hP hX hk P' X cal
      refine Wp.stepsG 2 (fun cal X P' hk hX hP => ?_)
      show kcall cal ix_X11_in [.int ((S.1 16) v3.toNatClampNeg), .int f1] (st S hs) [] 0 0 (0, 0) (fun v σ' c' m' => X (49, [some (.ref 7), some (.int f1), some (.int v2), some (.int v3), some (.int ((S.1 15) v3.toNatClampNeg))], v.toList ++ [], σ', c', m'))
      refine kcall0 rfl (hk _ _ _ _ _ _ (e_X11_in (d + 5) S hs ((S.1 16) v3.toNatClampNeg) f1 _ ?_))
      show X (49, [some (.ref 7), some (.int f1), some (.int v2), some (.int v3), some (.int ((S.1 15) v3.toNatClampNeg))], [.int (r_X11_in ((S.1 16) v3.toNatClampNeg) f1)], st S hs, 0, 0)
      refine hX _ ?_
      clear hP hX hk P' X cal
      refine Wp.stepsG 1 (fun cal X P' hk hX hP => ?_)
      show ((r_X11_in ((S.1 16) v3.toNatClampNeg) f1) = 0 → X (69, [some (.ref 7), some (.int f1), some (.int v2), some (.int v3), some (.int ((S.1 15) v3.toNatClampNeg))], [], st S hs, 0, 0)) ∧ (¬ (r_X11_in ((S.1 16) v3.toNatClampNeg) f1) = 0 → X (52, [some (.ref 7), some (.int f1), some (.int v2), some (.int v3), some (.int ((S.1 15) v3.toNatClampNeg))], [], st S hs, 0, 0))
      refine ⟨fun hc => hX _ ?_, fun hc => hX _ ?_⟩
      · clear hP hX hk P' X cal
        rw [if_pos hc] at hl
        refine Wp.stepsG 2 (fun cal X P' hk hX hP => ?_)
        show X (14, [some (.ref 7), some (.int f1), some (.int v2), some (.int (v3 + 1)), some (.int ((S.1 15) v3.toNatClampNeg))], [], st S hs, 0, 0)
        refine hX _ ?_
        exact Wp.weak (leL.k (leL.k (leL.k (leL.k (leL.n leL.z))))) (ih v2 (v3 + 1) S q hl ct)
      · clear hP hX hk P' X cal
        rw [if_neg hc] at hl
        refine Wp.stepsG 4 (fun cal X P' hk hX hP => ?_)
        show kcall cal ix_X11_laughNow [.ref 7, .int f1, .int ((S.1 15) v3.toNatClampNeg)] (st S hs) [] 0 0 (0, 0) (fun v σ' c' m' => X (59, [some (.ref 7), some (.int f1), some (.int v2), some (.int v3), some (.int ((S.1 15) v3.toNatClampNeg))], v.toList ++ [], σ', c', m'))
        obtain ⟨q3, hq3, hl⟩ := bd_some hl
        refine kcall0 rfl (hk _ _ _ _ _ _ (e_X11_laughNow (d + 0) S hs f1 ((S.1 15) v3.toNatClampNeg) q3 hq3 _ ?_))
        show X (59, [some (.ref 7), some (.int f1), some (.int v2), some (.int v3), some (.int ((S.1 15) v3.toNatClampNeg))], [.int q3.1], st q3.2 hs, 0, 0)
        refine hX _ ?_
        clear hP hX hk P' X cal
        refine Wp.stepsG 1 (fun cal X P' hk hX hP => ?_)
        show (q3.1 < 0 → X (69, [some (.ref 7), some (.int f1), some (.int v2), some (.int v3), some (.int ((S.1 15) v3.toNatClampNeg))], [], st q3.2 hs, 0, 0)) ∧ (¬ q3.1 < 0 → X (62, [some (.ref 7), some (.int f1), some (.int v2), some (.int v3), some (.int ((S.1 15) v3.toNatClampNeg))], [], st q3.2 hs, 0, 0))
        refine ⟨fun hc => hX _ ?_, fun hc => hX _ ?_⟩
        · clear hP hX hk P' X cal
          rw [if_pos hc] at hl
          refine Wp.stepsG 2 (fun cal X P' hk hX hP => ?_)
          show X (14, [some (.ref 7), some (.int f1), some (.int v2), some (.int (v3 + 1)), some (.int ((S.1 15) v3.toNatClampNeg))], [], st q3.2 hs, 0, 0)
          refine hX _ ?_
          exact Wp.weak (leL.k (leL.k (leL.k (leL.k (leL.n leL.z))))) (ih v2 (v3 + 1) q3.2 q hl ct)
        · clear hP hX hk P' X cal
          rw [if_neg hc] at hl
          refine Wp.stepsG 8 (fun cal X P' hk hX hP => ?_)
          show X (14, [some (.ref 7), some (.int f1), some (.int (v2 ||| ((1 : Int32) <<< (((S.1 15) v3.toNatClampNeg) &&& 31)))), some (.int (v3 + 1)), some (.int ((S.1 15) v3.toNatClampNeg))], [], st q3.2 hs, 0, 0)
          refine hX _ ?_
          exact Wp.weak (leL.k (leL.k (leL.k (leL.k (leL.n leL.z))))) (ih (v2 ||| ((1 : Int32) <<< (((S.1 15) v3.toNatClampNeg) &&& 31))) (v3 + 1) q3.2 q hl ct)
def r_X11_guess (S : St) (hs : List Hr) (a1 : Int32) : Option (Int32 × St) :=
  (r_X11_hearerAt S a1).bind fun q1 =>
  oH hs (q1) (
    some ((-1), S)) (fun zb2 =>
    (lp_X11_guess_14 hs a1 4000 0 0 S).bind fun q4 =>
      some (q4.1, q4.2))
