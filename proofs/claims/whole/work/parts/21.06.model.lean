def r_X12_best (S : St) (a1 : Int32) (a2 : Int32) : Option (Int32 × St) :=
  if (r_X12_in a2 0 1) = 0 then
    some ((-10001), S)
  else
    if (r_X12_isTable S a1) = 0 then
      some ((-10002), S)
    else
      if (S.1 76 0) = 0 then
        some ((-10005), S)
      else
        (r_X12_bestOf S a1).bind fun q1 =>
        if a2 = 0 then
          some (q1.1, q1.2)
        else
          (r_X12_laughter q1.2 q1.1 a1).bind fun q2 =>
          some (q2.1, q2.2)
set_option maxRecDepth 20000 in
set_option maxHeartbeats 4000000 in
theorem e_X12_best (d : Nat) (S : St) (hs : List Hr) (a1 : Int32) (a2 : Int32) (v : Int32 × St) (hr : r_X12_best S a1 a2 = some v) (P : Option Value → Hp → Prop) (h : P (some (.int v.1)) (st v.2 hs)) : Ev (d + 8) ix_X12_best 0 0 [.ref 76, .int a1, .int a2] (st S hs) P := by
  refine Ev.intro (M := mi_X12_best) rfl (Nat.le_of_ble_eq_true rfl) ?_
  unfold r_X12_best at hr
  refine Wp.stepsG 5 (fun cal X P' hk hX hP => ?_)
  show kcall cal ix_X12_in [.ref 76, .int a2, .int 0, .int 1] (st S hs) [] 0 0 (0, 0) (fun v σ' c' m' => X (7, [some (.ref 76), some (.int a1), some (.int a2), none], v.toList ++ [], σ', c', m'))
  refine kcall0 rfl (hk _ _ _ _ _ _ (e_X12_in (d + 6) S hs a2 0 1 _ ?_))
  show X (7, [some (.ref 76), some (.int a1), some (.int a2), none], [.int (r_X12_in a2 0 1)], st S hs, 0, 0)
  refine hX _ ?_
  clear hP hX hk P' X cal
  refine Wp.stepsG 1 (fun cal X P' hk hX hP => ?_)
  show (¬ (r_X12_in a2 0 1) = 0 → X (14, [some (.ref 76), some (.int a1), some (.int a2), none], [], st S hs, 0, 0)) ∧ ((r_X12_in a2 0 1) = 0 → X (10, [some (.ref 76), some (.int a1), some (.int a2), none], [], st S hs, 0, 0))
  refine ⟨fun hc => hX _ ?_, fun hc => hX _ ?_⟩
  · clear hP hX hk P' X cal
    rw [if_neg hc] at hr
    refine Wp.stepsG 3 (fun cal X P' hk hX hP => ?_)
    show kcall cal ix_X12_isTable [.ref 76, .int a1] (st S hs) [] 0 0 (0, 0) (fun v σ' c' m' => X (19, [some (.ref 76), some (.int a1), some (.int a2), none], v.toList ++ [], σ', c', m'))
    refine kcall0 rfl (hk _ _ _ _ _ _ (e_X12_isTable (d + 5) S hs a1 _ ?_))
    show X (19, [some (.ref 76), some (.int a1), some (.int a2), none], [.int (r_X12_isTable S a1)], st S hs, 0, 0)
    refine hX _ ?_
    clear hP hX hk P' X cal
    refine Wp.stepsG 1 (fun cal X P' hk hX hP => ?_)
    show (¬ (r_X12_isTable S a1) = 0 → X (26, [some (.ref 76), some (.int a1), some (.int a2), none], [], st S hs, 0, 0)) ∧ ((r_X12_isTable S a1) = 0 → X (22, [some (.ref 76), some (.int a1), some (.int a2), none], [], st S hs, 0, 0))
    refine ⟨fun hc => hX _ ?_, fun hc => hX _ ?_⟩
    · clear hP hX hk P' X cal
      rw [if_neg hc] at hr
      refine Wp.stepsG 3 (fun cal X P' hk hX hP => ?_)
      show (¬ (S.1 76 0) = 0 → X (37, [some (.ref 76), some (.int a1), some (.int a2), none], [], st S hs, 0, 0)) ∧ ((S.1 76 0) = 0 → X (33, [some (.ref 76), some (.int a1), some (.int a2), none], [], st S hs, 0, 0))
      refine ⟨fun hc => hX _ ?_, fun hc => hX _ ?_⟩
      · clear hP hX hk P' X cal
        rw [if_neg hc] at hr
        refine Wp.stepsG 3 (fun cal X P' hk hX hP => ?_)
        show kcall cal ix_X12_bestOf [.ref 76, .int a1] (st S hs) [] 0 0 (0, 0) (fun v σ' c' m' => X (42, [some (.ref 76), some (.int a1), some (.int a2), none], v.toList ++ [], σ', c', m'))
        obtain ⟨q1, hq1, hr⟩ := bd_some hr
        refine kcall0 rfl (hk _ _ _ _ _ _ (e_X12_bestOf (d + 0) S hs a1 q1 hq1 _ ?_))
        show X (42, [some (.ref 76), some (.int a1), some (.int a2), none], [.int q1.1], st q1.2 hs, 0, 0)
        refine hX _ ?_
        clear hP hX hk P' X cal
        refine Wp.stepsG 3 (fun cal X P' hk hX hP => ?_)
        show (¬ a2 = 0 → X (51, [some (.ref 76), some (.int a1), some (.int a2), some (.int q1.1)], [], st q1.2 hs, 0, 0)) ∧ (a2 = 0 → X (47, [some (.ref 76), some (.int a1), some (.int a2), some (.int q1.1)], [], st q1.2 hs, 0, 0))
        refine ⟨fun hc => hX _ ?_, fun hc => hX _ ?_⟩
        · clear hP hX hk P' X cal
          rw [if_neg hc] at hr
          refine Wp.stepsG 4 (fun cal X P' hk hX hP => ?_)
          show kcall cal ix_X12_laughter [.ref 76, .int q1.1, .int a1] (st q1.2 hs) [] 0 0 (0, 0) (fun v σ' c' m' => X (57, [some (.ref 76), some (.int a1), some (.int a2), some (.int q1.1)], v.toList ++ [], σ', c', m'))
          obtain ⟨q2, hq2, hr⟩ := bd_some hr
          refine kcall0 rfl (hk _ _ _ _ _ _ (e_X12_laughter (d + 1) q1.2 hs q1.1 a1 q2 hq2 _ ?_))
          show X (57, [some (.ref 76), some (.int a1), some (.int a2), some (.int q1.1)], [.int q2.1], st q2.2 hs, 0, 0)
          refine hX _ ?_
          clear hP hX hk P' X cal
          have hr := Option.some.inj hr
          subst hr
          refine Wp.stepsG 1 (fun cal X P' hk hX hP => ?_)
          exact hP _ _ h
        · clear hP hX hk P' X cal
          rw [if_pos hc] at hr
          have hr := Option.some.inj hr
          subst hr
          refine Wp.stepsG 3 (fun cal X P' hk hX hP => ?_)
          exact hP _ _ h
      · clear hP hX hk P' X cal
        rw [if_pos hc] at hr
        have hr := Option.some.inj hr
        subst hr
        refine Wp.stepsG 2 (fun cal X P' hk hX hP => ?_)
        exact hP _ _ h
    · clear hP hX hk P' X cal
      rw [if_pos hc] at hr
      have hr := Option.some.inj hr
      subst hr
      refine Wp.stepsG 2 (fun cal X P' hk hX hP => ?_)
      exact hP _ _ h
  · clear hP hX hk P' X cal
    rw [if_pos hc] at hr
    have hr := Option.some.inj hr
    subst hr
    refine Wp.stepsG 2 (fun cal X P' hk hX hP => ?_)
    exact hP _ _ h
def r_X12_fresh (S : St) (a1 : Int32) : Option Int32 :=
  if (r_X12_isStory S a1) = 0 then
    some (-1)
  else
    (r_X12_knowing S a1 (((1 : Int32) <<< ((S.1 76 1) &&& 31)) - 1)).bind fun q1 =>
    some ((((1 : Int32) <<< ((S.1 76 1) &&& 31)) - 1) &&& (q1 ^^^ (-1)))
set_option maxRecDepth 20000 in
set_option maxHeartbeats 4000000 in
theorem e_X12_fresh (d : Nat) (S : St) (hs : List Hr) (a1 : Int32) (v : Int32) (hr : r_X12_fresh S a1 = some v) (P : Option Value → Hp → Prop) (h : P (some (.int v)) (st S hs)) : Ev (d + 6) ix_X12_fresh 0 0 [.ref 76, .int a1] (st S hs) P := by
  refine Ev.intro (M := mi_X12_fresh) rfl (Nat.le_of_ble_eq_true rfl) ?_
  unfold r_X12_fresh at hr
  refine Wp.stepsG 3 (fun cal X P' hk hX hP => ?_)
  show kcall cal ix_X12_isStory [.ref 76, .int a1] (st S hs) [] 0 0 (0, 0) (fun v σ' c' m' => X (5, [some (.ref 76), some (.int a1)], v.toList ++ [], σ', c', m'))
  refine kcall0 rfl (hk _ _ _ _ _ _ (e_X12_isStory (d + 3) S hs a1 _ ?_))
  show X (5, [some (.ref 76), some (.int a1)], [.int (r_X12_isStory S a1)], st S hs, 0, 0)
  refine hX _ ?_
  clear hP hX hk P' X cal
  refine Wp.stepsG 1 (fun cal X P' hk hX hP => ?_)
  show ((r_X12_isStory S a1) = 0 → X (35, [some (.ref 76), some (.int a1)], [], st S hs, 0, 0)) ∧ (¬ (r_X12_isStory S a1) = 0 → X (8, [some (.ref 76), some (.int a1)], [], st S hs, 0, 0))
  refine ⟨fun hc => hX _ ?_, fun hc => hX _ ?_⟩
  · clear hP hX hk P' X cal
    rw [if_pos hc] at hr
    have hr := Option.some.inj hr
    subst hr
    refine Wp.stepsG 2 (fun cal X P' hk hX hP => ?_)
    exact hP _ _ h
  · clear hP hX hk P' X cal
    rw [if_neg hc] at hr
    refine Wp.stepsG 15 (fun cal X P' hk hX hP => ?_)
    show kcall cal ix_X12_knowing [.ref 76, .int a1, .int (((1 : Int32) <<< ((S.1 76 1) &&& 31)) - 1)] (st S hs) [.int (((1 : Int32) <<< ((S.1 76 1) &&& 31)) - 1)] 0 0 (0, 0) (fun v σ' c' m' => X (29, [some (.ref 76), some (.int a1)], v.toList ++ [.int (((1 : Int32) <<< ((S.1 76 1) &&& 31)) - 1)], σ', c', m'))
    obtain ⟨q1, hq1, hr⟩ := bd_some hr
    refine kcall0 rfl (hk _ _ _ _ _ _ (e_X12_knowing (d + 0) S hs a1 (((1 : Int32) <<< ((S.1 76 1) &&& 31)) - 1) q1 hq1 _ ?_))
    show X (29, [some (.ref 76), some (.int a1)], [.int q1, .int (((1 : Int32) <<< ((S.1 76 1) &&& 31)) - 1)], st S hs, 0, 0)
    refine hX _ ?_
    clear hP hX hk P' X cal
    have hr := Option.some.inj hr
    subst hr
    refine Wp.stepsG 5 (fun cal X P' hk hX hP => ?_)
    exact hP _ _ h
def lp_X12_again_33 (f1 : Int32) (f2 : Int32) (f3 : Int32) : Nat → Int32 → Int32 → St → Option (Int32 × St)
  | 0, _, _, _ => none
  | n + 1, v4, v5, S =>
    if 100 ≤ v5 then
      some (v4, S)
    else
      if 0 ≤ v4 then
        some (v4, S)
      else
        (r_X12_knowing (sI S 76 2 (f3 + v5)) f1 f2).bind fun q1 =>
        if q1 = 0 then
          lp_X12_again_33 f1 f2 f3 n v5 (v5 + 1) (sI S 76 2 (f3 + v5))
        else
          lp_X12_again_33 f1 f2 f3 n (-5) (v5 + 1) (sI S 76 2 (f3 + v5))
set_option maxRecDepth 20000 in
set_option maxHeartbeats 4000000 in
theorem e_lp_X12_again_33 (d : Nat) (hs : List Hr) (P : Option Value → Hp → Prop) (f1 : Int32) (f2 : Int32) (f3 : Int32) : ∀ (n : Nat) (v4 : Int32) (v5 : Int32) (S : St) (q : Int32 × St), lp_X12_again_33 f1 f2 f3 n v4 v5 S = some q → (WM mi_X12_again (d + 5) P 77 [some (.ref 76), some (.int f1), some (.int f2), some (.int f3), some (.int q.1), none] [] (st q.2 hs)) → WM mi_X12_again (d + 5) P 33 [some (.ref 76), some (.int f1), some (.int f2), some (.int f3), some (.int v4), some (.int v5)] [] (st S hs) := by
  intro n
  induction n with
  | zero =>
    intro v4 v5 S q hl
    cases hl
  | succ n ih =>
    intro v4 v5 S q hl ct
    rw [lp_X12_again_33] at hl
    refine Wp.stepsG 3 (fun cal X P' hk hX hP => ?_)
    show (100 ≤ v5 → X (77, [some (.ref 76), some (.int f1), some (.int f2), some (.int f3), some (.int v4), some (.int v5)], [], st S hs, 0, 0)) ∧ (¬ 100 ≤ v5 → X (40, [some (.ref 76), some (.int f1), some (.int f2), some (.int f3), some (.int v4), some (.int v5)], [], st S hs, 0, 0))
    refine ⟨fun hc => hX _ ?_, fun hc => hX _ ?_⟩
    · clear hP hX hk P' X cal
      rw [if_pos hc] at hl
      have hl := Option.some.inj hl
      subst hl
      exact Wp.weak (leL.k (leL.k (leL.k (leL.k (leL.k (leL.n leL.z)))))) (ct)
    · clear hP hX hk P' X cal
      rw [if_neg hc] at hl
      refine Wp.stepsG 2 (fun cal X P' hk hX hP => ?_)
      show (0 ≤ v4 → X (77, [some (.ref 76), some (.int f1), some (.int f2), some (.int f3), some (.int v4), some (.int v5)], [], st S hs, 0, 0)) ∧ (¬ 0 ≤ v4 → X (45, [some (.ref 76), some (.int f1), some (.int f2), some (.int f3), some (.int v4), some (.int v5)], [], st S hs, 0, 0))
      refine ⟨fun hc => hX _ ?_, fun hc => hX _ ?_⟩
      · clear hP hX hk P' X cal
        rw [if_pos hc] at hl
        have hl := Option.some.inj hl
        subst hl
        exact Wp.weak (leL.k (leL.k (leL.k (leL.k (leL.k (leL.n leL.z)))))) (ct)
      · clear hP hX hk P' X cal
        rw [if_neg hc] at hl
        refine Wp.stepsG 9 (fun cal X P' hk hX hP => ?_)
        show kcall cal ix_X12_knowing [.ref 76, .int f1, .int f2] (st (sI S 76 2 (f3 + v5)) hs) [] 0 0 (0, 0) (fun v σ' c' m' => X (59, [some (.ref 76), some (.int f1), some (.int f2), some (.int f3), some (.int v4), some (.int v5)], v.toList ++ [], σ', c', m'))
        obtain ⟨q1, hq1, hl⟩ := bd_some hl
        refine kcall0 rfl (hk _ _ _ _ _ _ (e_X12_knowing (d + 0) (sI S 76 2 (f3 + v5)) hs f1 f2 q1 hq1 _ ?_))
        show X (59, [some (.ref 76), some (.int f1), some (.int f2), some (.int f3), some (.int v4), some (.int v5)], [.int q1], st (sI S 76 2 (f3 + v5)) hs, 0, 0)
        refine hX _ ?_
        clear hP hX hk P' X cal
        refine Wp.stepsG 1 (fun cal X P' hk hX hP => ?_)
        show (¬ q1 = 0 → X (67, [some (.ref 76), some (.int f1), some (.int f2), some (.int f3), some (.int v4), some (.int v5)], [], st (sI S 76 2 (f3 + v5)) hs, 0, 0)) ∧ (q1 = 0 → X (62, [some (.ref 76), some (.int f1), some (.int f2), some (.int f3), some (.int v4), some (.int v5)], [], st (sI S 76 2 (f3 + v5)) hs, 0, 0))
        refine ⟨fun hc => hX _ ?_, fun hc => hX _ ?_⟩
        · clear hP hX hk P' X cal
          rw [if_neg hc] at hl
          refine Wp.stepsG 4 (fun cal X P' hk hX hP => ?_)
          show X (33, [some (.ref 76), some (.int f1), some (.int f2), some (.int f3), some (.int (-5)), some (.int (v5 + 1))], [], st (sI S 76 2 (f3 + v5)) hs, 0, 0)
          refine hX _ ?_
          exact (ih (-5) (v5 + 1) (sI S 76 2 (f3 + v5)) q hl ct)
        · clear hP hX hk P' X cal
          rw [if_pos hc] at hl
          refine Wp.stepsG 5 (fun cal X P' hk hX hP => ?_)
          show X (33, [some (.ref 76), some (.int f1), some (.int f2), some (.int f3), some (.int v5), some (.int (v5 + 1))], [], st (sI S 76 2 (f3 + v5)) hs, 0, 0)
          refine hX _ ?_
          exact (ih v5 (v5 + 1) (sI S 76 2 (f3 + v5)) q hl ct)
def r_X12_again (S : St) (a1 : Int32) (a2 : Int32) : Option (Int32 × St) :=
  if (r_X12_isStory S a1) = 0 then
    some ((-1), S)
  else
    if (r_X12_isTable S a2) = 0 then
      some ((-2), S)
    else
      (lp_X12_again_33 a1 a2 (S.1 76 2) 4000 (-5) 0 S).bind fun q2 =>
        some (q2.1, sI q2.2 76 2 (S.1 76 2))
set_option maxRecDepth 20000 in
set_option maxHeartbeats 4000000 in
theorem e_X12_again (d : Nat) (S : St) (hs : List Hr) (a1 : Int32) (a2 : Int32) (v : Int32 × St) (hr : r_X12_again S a1 a2 = some v) (P : Option Value → Hp → Prop) (h : P (some (.int v.1)) (st v.2 hs)) : Ev (d + 6) ix_X12_again 0 0 [.ref 76, .int a1, .int a2] (st S hs) P := by
  refine Ev.intro (M := mi_X12_again) rfl (Nat.le_of_ble_eq_true rfl) ?_
  unfold r_X12_again at hr
  refine Wp.stepsG 3 (fun cal X P' hk hX hP => ?_)
  show kcall cal ix_X12_isStory [.ref 76, .int a1] (st S hs) [] 0 0 (0, 0) (fun v σ' c' m' => X (5, [some (.ref 76), some (.int a1), some (.int a2), none, none, none], v.toList ++ [], σ', c', m'))
  refine kcall0 rfl (hk _ _ _ _ _ _ (e_X12_isStory (d + 3) S hs a1 _ ?_))
  show X (5, [some (.ref 76), some (.int a1), some (.int a2), none, none, none], [.int (r_X12_isStory S a1)], st S hs, 0, 0)
  refine hX _ ?_
  clear hP hX hk P' X cal
  refine Wp.stepsG 1 (fun cal X P' hk hX hP => ?_)
  show (¬ (r_X12_isStory S a1) = 0 → X (10, [some (.ref 76), some (.int a1), some (.int a2), none, none, none], [], st S hs, 0, 0)) ∧ ((r_X12_isStory S a1) = 0 → X (8, [some (.ref 76), some (.int a1), some (.int a2), none, none, none], [], st S hs, 0, 0))
  refine ⟨fun hc => hX _ ?_, fun hc => hX _ ?_⟩
  · clear hP hX hk P' X cal
    rw [if_neg hc] at hr
    refine Wp.stepsG 3 (fun cal X P' hk hX hP => ?_)
    show kcall cal ix_X12_isTable [.ref 76, .int a2] (st S hs) [] 0 0 (0, 0) (fun v σ' c' m' => X (15, [some (.ref 76), some (.int a1), some (.int a2), none, none, none], v.toList ++ [], σ', c', m'))
    refine kcall0 rfl (hk _ _ _ _ _ _ (e_X12_isTable (d + 3) S hs a2 _ ?_))
    show X (15, [some (.ref 76), some (.int a1), some (.int a2), none, none, none], [.int (r_X12_isTable S a2)], st S hs, 0, 0)
    refine hX _ ?_
    clear hP hX hk P' X cal
    refine Wp.stepsG 1 (fun cal X P' hk hX hP => ?_)
    show (¬ (r_X12_isTable S a2) = 0 → X (21, [some (.ref 76), some (.int a1), some (.int a2), none, none, none], [], st S hs, 0, 0)) ∧ ((r_X12_isTable S a2) = 0 → X (18, [some (.ref 76), some (.int a1), some (.int a2), none, none, none], [], st S hs, 0, 0))
    refine ⟨fun hc => hX _ ?_, fun hc => hX _ ?_⟩
    · clear hP hX hk P' X cal
      rw [if_neg hc] at hr
      refine Wp.stepsG 7 (fun cal X P' hk hX hP => ?_)
      show X (33, [some (.ref 76), some (.int a1), some (.int a2), some (.int (S.1 76 2)), some (.int (-5)), some (.int 0)], [], st S hs, 0, 0)
      refine hX _ ?_
      clear hP hX hk P' X cal
      obtain ⟨q2, hq2, hr⟩ := bd_some hr
      refine (e_lp_X12_again_33 d hs P a1 a2 (S.1 76 2) _ (-5) 0 S q2 hq2 ?_)
      have hr := Option.some.inj hr
      subst hr
      refine Wp.stepsG 5 (fun cal X P' hk hX hP => ?_)
      exact hP _ _ h
    · clear hP hX hk P' X cal
      rw [if_pos hc] at hr
      have hr := Option.some.inj hr
      subst hr
      refine Wp.stepsG 2 (fun cal X P' hk hX hP => ?_)
      exact hP _ _ h
  · clear hP hX hk P' X cal
    rw [if_pos hc] at hr
    have hr := Option.some.inj hr
    subst hr
    refine Wp.stepsG 2 (fun cal X P' hk hX hP => ?_)
    exact hP _ _ h
def lp_X12_layFun_2 (f1 : Int32) : Nat → Int32 → St → Option (St)
  | 0, _, _ => none
  | n + 1, v2, S =>
    if (S.1 76 0) ≤ v2 then
      some S
    else
      (r_X12_laughter S v2 f1).bind fun q1 =>
      gd (¬ (v2 < 0 ∨ 8 ≤ v2.toNatClampNeg)) (
        lp_X12_layFun_2 f1 n (v2 + 1) (sA q1.2 94 (upd (q1.2.1 94) v2.toNatClampNeg q1.1)))
set_option maxRecDepth 20000 in
set_option maxHeartbeats 4000000 in
theorem e_lp_X12_layFun_2 (d : Nat) (hs : List Hr) (P : Option Value → Hp → Prop) (f1 : Int32) : ∀ (n : Nat) (v2 : Int32) (S : St) (q : St), lp_X12_layFun_2 f1 n v2 S = some q → (WM mi_X12_layFun (d + 6) P 28 [some (.ref 76), some (.int f1), none] [] (st q hs)) → WM mi_X12_layFun (d + 6) P 2 [some (.ref 76), some (.int f1), some (.int v2)] [] (st S hs) := by
  intro n
  induction n with
  | zero =>
    intro v2 S q hl
    cases hl
  | succ n ih =>
    intro v2 S q hl ct
    rw [lp_X12_layFun_2] at hl
    refine Wp.stepsG 4 (fun cal X P' hk hX hP => ?_)
    show ((S.1 76 0) ≤ v2 → X (28, [some (.ref 76), some (.int f1), some (.int v2)], [], st S hs, 0, 0)) ∧ (¬ (S.1 76 0) ≤ v2 → X (10, [some (.ref 76), some (.int f1), some (.int v2)], [], st S hs, 0, 0))
    refine ⟨fun hc => hX _ ?_, fun hc => hX _ ?_⟩
    · clear hP hX hk P' X cal
      rw [if_pos hc] at hl
      have hl := Option.some.inj hl
      subst hl
      exact Wp.weak (leL.k (leL.k (leL.n leL.z))) (ct)
    · clear hP hX hk P' X cal
      rw [if_neg hc] at hl
      refine Wp.stepsG 7 (fun cal X P' hk hX hP => ?_)
      show kcall cal ix_X12_laughter [.ref 76, .int v2, .int f1] (st S hs) [.int v2, .ref 94] 0 0 (0, 0) (fun v σ' c' m' => X (21, [some (.ref 76), some (.int f1), some (.int v2)], v.toList ++ [.int v2, .ref 94], σ', c', m'))
      obtain ⟨q1, hq1, hl⟩ := bd_some hl
      refine kcall0 rfl (hk _ _ _ _ _ _ (e_X12_laughter (d + 0) S hs v2 f1 q1 hq1 _ ?_))
      show X (21, [some (.ref 76), some (.int f1), some (.int v2)], [.int q1.1, .int v2, .ref 94], st q1.2 hs, 0, 0)
      refine hX _ ?_
      clear hP hX hk P' X cal
      refine Wp.stepsG 1 (fun cal X P' hk hX hP => ?_)
      show vp_in v2 8 ∧ X (22, [some (.ref 76), some (.int f1), some (.int v2)], [], st (sA q1.2 94 (upd (q1.2.1 94) v2.toNatClampNeg q1.1)) hs, 0, 0)
      obtain ⟨hg, hl⟩ := gd_some hl
      refine ⟨hg, hX _ ?_⟩
      clear hP hX hk P' X cal
      refine Wp.stepsG 2 (fun cal X P' hk hX hP => ?_)
      show X (2, [some (.ref 76), some (.int f1), some (.int (v2 + 1))], [], st (sA q1.2 94 (upd (q1.2.1 94) v2.toNatClampNeg q1.1)) hs, 0, 0)
      refine hX _ ?_
      exact (ih (v2 + 1) (sA q1.2 94 (upd (q1.2.1 94) v2.toNatClampNeg q1.1)) q hl ct)
def r_X12_layFun (S : St) (a1 : Int32) : Option (Int32 × St) :=
  (lp_X12_layFun_2 a1 4000 0 S).bind fun q2 =>
    some (0, q2)
set_option maxRecDepth 20000 in
set_option maxHeartbeats 4000000 in
theorem e_X12_layFun (d : Nat) (S : St) (hs : List Hr) (a1 : Int32) (v : Int32 × St) (hr : r_X12_layFun S a1 = some v) (P : Option Value → Hp → Prop) (h : P none (st v.2 hs)) : Ev (d + 7) ix_X12_layFun 0 0 [.ref 76, .int a1] (st S hs) P := by
  refine Ev.intro (M := mi_X12_layFun) rfl (Nat.le_of_ble_eq_true rfl) ?_
  unfold r_X12_layFun at hr
  refine Wp.stepsG 2 (fun cal X P' hk hX hP => ?_)
  show X (2, [some (.ref 76), some (.int a1), some (.int 0)], [], st S hs, 0, 0)
  refine hX _ ?_
  clear hP hX hk P' X cal
  obtain ⟨q2, hq2, hr⟩ := bd_some hr
  refine (e_lp_X12_layFun_2 d hs P a1 _ 0 S q2 hq2 ?_)
  have hr := Option.some.inj hr
  subst hr
  refine Wp.stepsG 1 (fun cal X P' hk hX hP => ?_)
  exact hP _ _ h
def lp_X12_evening_71 (S : St) (f2 : Int32) (f3 : Int32) (f4 : Int32) (f5 : Int32) (f6 : Int32) : Nat → Int32 → Int32 → Int32 → Option (Int32 × Int32)
  | 0, _, _, _ => none
  | n + 1, v7, v8, v9 =>
    if (S.1 76 0) ≤ v9 then
      some (v7, v8)
    else
      if (r_X12_has f6 v9) = 0 then
        if (r_X12_has f6 v9) = 0 then
          lp_X12_evening_71 S f2 f3 f4 f5 f6 n (v7 + 0) (v8 + 0) (v9 + 1)
        else
          gd (¬ (v9 < 0 ∨ 8 ≤ v9.toNatClampNeg)) (
            lp_X12_evening_71 S f2 f3 f4 f5 f6 n (v7 + 0) (v8 + ((S.1 78) v9.toNatClampNeg)) (v9 + 1))
      else
        gd (¬ (v9 < 0 ∨ 8 ≤ v9.toNatClampNeg)) (
          if (r_X12_has f6 v9) = 0 then
            lp_X12_evening_71 S f2 f3 f4 f5 f6 n (v7 + ((S.1 94) v9.toNatClampNeg)) (v8 + 0) (v9 + 1)
          else
            gd (¬ (v9 < 0 ∨ 8 ≤ v9.toNatClampNeg)) (
              lp_X12_evening_71 S f2 f3 f4 f5 f6 n (v7 + ((S.1 94) v9.toNatClampNeg)) (v8 + ((S.1 78) v9.toNatClampNeg)) (v9 + 1)))
set_option maxRecDepth 20000 in
set_option maxHeartbeats 4000000 in
theorem e_lp_X12_evening_71 (d : Nat) (hs : List Hr) (P : Option Value → Hp → Prop) (S : St) (f2 : Int32) (f3 : Int32) (f4 : Int32) (f5 : Int32) (f6 : Int32) : ∀ (n : Nat) (v7 : Int32) (v8 : Int32) (v9 : Int32) (q : Int32 × Int32), lp_X12_evening_71 S f2 f3 f4 f5 f6 n v7 v8 v9 = some q → (WM mi_X12_evening (d + 7) P 140 [some (.ref 76), none, some (.int f2), some (.int f3), some (.int f4), some (.int f5), some (.int f6), some (.int q.1), some (.int q.2), none] [] (st S hs)) → WM mi_X12_evening (d + 7) P 71 [some (.ref 76), none, some (.int f2), some (.int f3), some (.int f4), some (.int f5), some (.int f6), some (.int v7), some (.int v8), some (.int v9)] [] (st S hs) := by
  intro n
  induction n with
  | zero =>
    intro v7 v8 v9 q hl
    cases hl
  | succ n ih =>
    intro v7 v8 v9 q hl ct
    rw [lp_X12_evening_71] at hl
    refine Wp.stepsG 4 (fun cal X P' hk hX hP => ?_)
    show ((S.1 76 0) ≤ v9 → X (140, [some (.ref 76), none, some (.int f2), some (.int f3), some (.int f4), some (.int f5), some (.int f6), some (.int v7), some (.int v8), some (.int v9)], [], st S hs, 0, 0)) ∧ (¬ (S.1 76 0) ≤ v9 → X (80, [some (.ref 76), none, some (.int f2), some (.int f3), some (.int f4), some (.int f5), some (.int f6), some (.int v7), some (.int v8), some (.int v9)], [], st S hs, 0, 0))
    refine ⟨fun hc => hX _ ?_, fun hc => hX _ ?_⟩
    · clear hP hX hk P' X cal
      rw [if_pos hc] at hl
      have hl := Option.some.inj hl
      subst hl
      exact Wp.weak (leL.k (leL.k (leL.k (leL.k (leL.k (leL.k (leL.k (leL.k (leL.k (leL.n leL.z)))))))))) (ct)
    · clear hP hX hk P' X cal
      rw [if_neg hc] at hl
      refine Wp.stepsG 5 (fun cal X P' hk hX hP => ?_)
      show kcall cal ix_X12_has [.ref 76, .int f6, .int v9] (st S hs) [.int v7] 0 0 (0, 0) (fun v σ' c' m' => X (90, [some (.ref 76), none, some (.int f2), some (.int f3), some (.int f4), some (.int f5), some (.int f6), some (.int v7), some (.int v8), some (.int v9)], v.toList ++ [.int v7], σ', c', m'))
      refine kcall0 rfl (hk _ _ _ _ _ _ (e_X12_has (d + 6) S hs f6 v9 _ ?_))
      show X (90, [some (.ref 76), none, some (.int f2), some (.int f3), some (.int f4), some (.int f5), some (.int f6), some (.int v7), some (.int v8), some (.int v9)], [.int (r_X12_has f6 v9), .int v7], st S hs, 0, 0)
      refine hX _ ?_
      clear hP hX hk P' X cal
      refine Wp.stepsG 1 (fun cal X P' hk hX hP => ?_)
      show ((r_X12_has f6 v9) = 0 → X (103, [some (.ref 76), none, some (.int f2), some (.int f3), some (.int f4), some (.int f5), some (.int f6), some (.int v7), some (.int v8), some (.int v9)], [.int v7], st S hs, 0, 0)) ∧ (¬ (r_X12_has f6 v9) = 0 → X (93, [some (.ref 76), none, some (.int f2), some (.int f3), some (.int f4), some (.int f5), some (.int f6), some (.int v7), some (.int v8), some (.int v9)], [.int v7], st S hs, 0, 0))
      refine ⟨fun hc => hX _ ?_, fun hc => hX _ ?_⟩
      · clear hP hX hk P' X cal
        rw [if_pos hc] at hl
        refine Wp.stepsG 8 (fun cal X P' hk hX hP => ?_)
        show kcall cal ix_X12_has [.ref 76, .int f6, .int v9] (st S hs) [.int v8] 0 0 (0, 0) (fun v σ' c' m' => X (117, [some (.ref 76), none, some (.int f2), some (.int f3), some (.int f4), some (.int f5), some (.int f6), some (.int (v7 + 0)), some (.int v8), some (.int v9)], v.toList ++ [.int v8], σ', c', m'))
        refine kcall0 rfl (hk _ _ _ _ _ _ (e_X12_has (d + 6) S hs f6 v9 _ ?_))
        show X (117, [some (.ref 76), none, some (.int f2), some (.int f3), some (.int f4), some (.int f5), some (.int f6), some (.int (v7 + 0)), some (.int v8), some (.int v9)], [.int (r_X12_has f6 v9), .int v8], st S hs, 0, 0)
        refine hX _ ?_
        clear hP hX hk P' X cal
        refine Wp.stepsG 1 (fun cal X P' hk hX hP => ?_)
        show ((r_X12_has f6 v9) = 0 → X (130, [some (.ref 76), none, some (.int f2), some (.int f3), some (.int f4), some (.int f5), some (.int f6), some (.int (v7 + 0)), some (.int v8), some (.int v9)], [.int v8], st S hs, 0, 0)) ∧ (¬ (r_X12_has f6 v9) = 0 → X (120, [some (.ref 76), none, some (.int f2), some (.int f3), some (.int f4), some (.int f5), some (.int f6), some (.int (v7 + 0)), some (.int v8), some (.int v9)], [.int v8], st S hs, 0, 0))
        refine ⟨fun hc => hX _ ?_, fun hc => hX _ ?_⟩
        · clear hP hX hk P' X cal
          rw [if_pos hc] at hl
          refine Wp.stepsG 5 (fun cal X P' hk hX hP => ?_)
          show X (71, [some (.ref 76), none, some (.int f2), some (.int f3), some (.int f4), some (.int f5), some (.int f6), some (.int (v7 + 0)), some (.int (v8 + 0)), some (.int (v9 + 1))], [], st S hs, 0, 0)
          refine hX _ ?_
          exact (ih (v7 + 0) (v8 + 0) (v9 + 1) q hl ct)
        · clear hP hX hk P' X cal
          rw [if_neg hc] at hl
          refine Wp.stepsG 4 (fun cal X P' hk hX hP => ?_)
          show vp_in v9 8 ∧ X (127, [some (.ref 76), none, some (.int f2), some (.int f3), some (.int f4), some (.int f5), some (.int f6), some (.int (v7 + 0)), some (.int v8), some (.int v9)], [.int ((S.1 78) v9.toNatClampNeg), .int v8], st S hs, 0, 0)
          obtain ⟨hg, hl⟩ := gd_some hl
          refine ⟨hg, hX _ ?_⟩
          clear hP hX hk P' X cal
          refine Wp.stepsG 5 (fun cal X P' hk hX hP => ?_)
          show X (71, [some (.ref 76), none, some (.int f2), some (.int f3), some (.int f4), some (.int f5), some (.int f6), some (.int (v7 + 0)), some (.int (v8 + ((S.1 78) v9.toNatClampNeg))), some (.int (v9 + 1))], [], st S hs, 0, 0)
          refine hX _ ?_
          exact (ih (v7 + 0) (v8 + ((S.1 78) v9.toNatClampNeg)) (v9 + 1) q hl ct)
      · clear hP hX hk P' X cal
        rw [if_neg hc] at hl
        refine Wp.stepsG 4 (fun cal X P' hk hX hP => ?_)
        show vp_in v9 8 ∧ X (100, [some (.ref 76), none, some (.int f2), some (.int f3), some (.int f4), some (.int f5), some (.int f6), some (.int v7), some (.int v8), some (.int v9)], [.int ((S.1 94) v9.toNatClampNeg), .int v7], st S hs, 0, 0)
        obtain ⟨hg, hl⟩ := gd_some hl
        refine ⟨hg, hX _ ?_⟩
        clear hP hX hk P' X cal
        refine Wp.stepsG 8 (fun cal X P' hk hX hP => ?_)
        show kcall cal ix_X12_has [.ref 76, .int f6, .int v9] (st S hs) [.int v8] 0 0 (0, 0) (fun v σ' c' m' => X (117, [some (.ref 76), none, some (.int f2), some (.int f3), some (.int f4), some (.int f5), some (.int f6), some (.int (v7 + ((S.1 94) v9.toNatClampNeg))), some (.int v8), some (.int v9)], v.toList ++ [.int v8], σ', c', m'))
        refine kcall0 rfl (hk _ _ _ _ _ _ (e_X12_has (d + 6) S hs f6 v9 _ ?_))
        show X (117, [some (.ref 76), none, some (.int f2), some (.int f3), some (.int f4), some (.int f5), some (.int f6), some (.int (v7 + ((S.1 94) v9.toNatClampNeg))), some (.int v8), some (.int v9)], [.int (r_X12_has f6 v9), .int v8], st S hs, 0, 0)
        refine hX _ ?_
        clear hP hX hk P' X cal
        refine Wp.stepsG 1 (fun cal X P' hk hX hP => ?_)
        show ((r_X12_has f6 v9) = 0 → X (130, [some (.ref 76), none, some (.int f2), some (.int f3), some (.int f4), some (.int f5), some (.int f6), some (.int (v7 + ((S.1 94) v9.toNatClampNeg))), some (.int v8), some (.int v9)], [.int v8], st S hs, 0, 0)) ∧ (¬ (r_X12_has f6 v9) = 0 → X (120, [some (.ref 76), none, some (.int f2), some (.int f3), some (.int f4), some (.int f5), some (.int f6), some (.int (v7 + ((S.1 94) v9.toNatClampNeg))), some (.int v8), some (.int v9)], [.int v8], st S hs, 0, 0))
        refine ⟨fun hc => hX _ ?_, fun hc => hX _ ?_⟩
        · clear hP hX hk P' X cal
          rw [if_pos hc] at hl
          refine Wp.stepsG 5 (fun cal X P' hk hX hP => ?_)
          show X (71, [some (.ref 76), none, some (.int f2), some (.int f3), some (.int f4), some (.int f5), some (.int f6), some (.int (v7 + ((S.1 94) v9.toNatClampNeg))), some (.int (v8 + 0)), some (.int (v9 + 1))], [], st S hs, 0, 0)
          refine hX _ ?_
          exact (ih (v7 + ((S.1 94) v9.toNatClampNeg)) (v8 + 0) (v9 + 1) q hl ct)
        · clear hP hX hk P' X cal
          rw [if_neg hc] at hl
          refine Wp.stepsG 4 (fun cal X P' hk hX hP => ?_)
          show vp_in v9 8 ∧ X (127, [some (.ref 76), none, some (.int f2), some (.int f3), some (.int f4), some (.int f5), some (.int f6), some (.int (v7 + ((S.1 94) v9.toNatClampNeg))), some (.int v8), some (.int v9)], [.int ((S.1 78) v9.toNatClampNeg), .int v8], st S hs, 0, 0)
          obtain ⟨hg, hl⟩ := gd_some hl
          refine ⟨hg, hX _ ?_⟩
          clear hP hX hk P' X cal
          refine Wp.stepsG 5 (fun cal X P' hk hX hP => ?_)
          show X (71, [some (.ref 76), none, some (.int f2), some (.int f3), some (.int f4), some (.int f5), some (.int f6), some (.int (v7 + ((S.1 94) v9.toNatClampNeg))), some (.int (v8 + ((S.1 78) v9.toNatClampNeg))), some (.int (v9 + 1))], [], st S hs, 0, 0)
          refine hX _ ?_
          exact (ih (v7 + ((S.1 94) v9.toNatClampNeg)) (v8 + ((S.1 78) v9.toNatClampNeg)) (v9 + 1) q hl ct)
def lp_X12_evening_51 (S : St) (f2 : Int32) (f3 : Int32) : Nat → Int32 → Int32 → Int32 → Option (Int32 × Int32)
  | 0, _, _, _ => none
  | n + 1, v4, v5, v6 =>
    if ((1 : Int32) <<< ((S.1 76 0) &&& 31)) ≤ v6 then
      some (v4, v5)
    else
      (lp_X12_evening_71 S f2 f3 v4 v5 v6 4000 0 0 0).bind fun q2 =>
        if f2 < q2.2 then
          lp_X12_evening_51 S f2 f3 n v4 v5 (v6 + 1)
        else
          if v5 < q2.1 then
            lp_X12_evening_51 S f2 f3 n v6 q2.1 (v6 + 1)
          else
            lp_X12_evening_51 S f2 f3 n v4 v5 (v6 + 1)
set_option maxRecDepth 20000 in
set_option maxHeartbeats 4000000 in
theorem e_lp_X12_evening_51 (d : Nat) (hs : List Hr) (P : Option Value → Hp → Prop) (S : St) (f2 : Int32) (f3 : Int32) : ∀ (n : Nat) (v4 : Int32) (v5 : Int32) (v6 : Int32) (q : Int32 × Int32), lp_X12_evening_51 S f2 f3 n v4 v5 v6 = some q → (WM mi_X12_evening (d + 7) P 170 [some (.ref 76), none, some (.int f2), some (.int f3), some (.int q.1), some (.int q.2), none, none, none, none] [] (st S hs)) → WM mi_X12_evening (d + 7) P 51 [some (.ref 76), none, some (.int f2), some (.int f3), some (.int v4), some (.int v5), some (.int v6), none, none, none] [] (st S hs) := by
  intro n
  induction n with
  | zero =>
    intro v4 v5 v6 q hl
    cases hl
  | succ n ih =>
    intro v4 v5 v6 q hl ct
    rw [lp_X12_evening_51] at hl
    refine Wp.stepsG 6 (fun cal X P' hk hX hP => ?_)
    show (((1 : Int32) <<< ((S.1 76 0) &&& 31)) ≤ v6 → X (170, [some (.ref 76), none, some (.int f2), some (.int f3), some (.int v4), some (.int v5), some (.int v6), none, none, none], [], st S hs, 0, 0)) ∧ (¬ ((1 : Int32) <<< ((S.1 76 0) &&& 31)) ≤ v6 → X (62, [some (.ref 76), none, some (.int f2), some (.int f3), some (.int v4), some (.int v5), some (.int v6), none, none, none], [], st S hs, 0, 0))
    refine ⟨fun hc => hX _ ?_, fun hc => hX _ ?_⟩
    · clear hP hX hk P' X cal
      rw [if_pos hc] at hl
      have hl := Option.some.inj hl
      subst hl
      exact Wp.weak (leL.k (leL.k (leL.k (leL.k (leL.k (leL.k (leL.n (leL.k (leL.k (leL.k leL.z)))))))))) (ct)
    · clear hP hX hk P' X cal
      rw [if_neg hc] at hl
      refine Wp.stepsG 6 (fun cal X P' hk hX hP => ?_)
      show X (71, [some (.ref 76), none, some (.int f2), some (.int f3), some (.int v4), some (.int v5), some (.int v6), some (.int 0), some (.int 0), some (.int 0)], [], st S hs, 0, 0)
      refine hX _ ?_
      clear hP hX hk P' X cal
      obtain ⟨q2, hq2, hl⟩ := bd_some hl
      refine (e_lp_X12_evening_71 d hs P S f2 f3 v4 v5 v6 _ 0 0 0 q2 hq2 ?_)
      refine Wp.stepsG 3 (fun cal X P' hk hX hP => ?_)
      show (f2 < q2.2 → X (164, [some (.ref 76), none, some (.int f2), some (.int f3), some (.int v4), some (.int v5), some (.int v6), some (.int q2.1), some (.int q2.2), none], [], st S hs, 0, 0)) ∧ (¬ f2 < q2.2 → X (146, [some (.ref 76), none, some (.int f2), some (.int f3), some (.int v4), some (.int v5), some (.int v6), some (.int q2.1), some (.int q2.2), none], [], st S hs, 0, 0))
      refine ⟨fun hc => hX _ ?_, fun hc => hX _ ?_⟩
      · clear hP hX hk P' X cal
        rw [if_pos hc] at hl
        refine Wp.stepsG 2 (fun cal X P' hk hX hP => ?_)
        show X (51, [some (.ref 76), none, some (.int f2), some (.int f3), some (.int v4), some (.int v5), some (.int (v6 + 1)), some (.int q2.1), some (.int q2.2), none], [], st S hs, 0, 0)
        refine hX _ ?_
        exact Wp.weak (leL.k (leL.k (leL.k (leL.k (leL.k (leL.k (leL.k (leL.n (leL.n (leL.k leL.z)))))))))) (ih v4 v5 (v6 + 1) q hl ct)
      · clear hP hX hk P' X cal
        rw [if_neg hc] at hl
        refine Wp.stepsG 3 (fun cal X P' hk hX hP => ?_)
        show (v5 < q2.1 → X (156, [some (.ref 76), none, some (.int f2), some (.int f3), some (.int v4), some (.int v5), some (.int v6), some (.int q2.1), some (.int q2.2), none], [], st S hs, 0, 0)) ∧ (¬ v5 < q2.1 → X (153, [some (.ref 76), none, some (.int f2), some (.int f3), some (.int v4), some (.int v5), some (.int v6), some (.int q2.1), some (.int q2.2), none], [], st S hs, 0, 0))
        refine ⟨fun hc => hX _ ?_, fun hc => hX _ ?_⟩
        · clear hP hX hk P' X cal
          rw [if_pos hc] at hl
          refine Wp.stepsG 6 (fun cal X P' hk hX hP => ?_)
          show X (51, [some (.ref 76), none, some (.int f2), some (.int f3), some (.int v6), some (.int q2.1), some (.int (v6 + 1)), some (.int q2.1), some (.int q2.2), none], [], st S hs, 0, 0)
          refine hX _ ?_
          exact Wp.weak (leL.k (leL.k (leL.k (leL.k (leL.k (leL.k (leL.k (leL.n (leL.n (leL.k leL.z)))))))))) (ih v6 q2.1 (v6 + 1) q hl ct)
        · clear hP hX hk P' X cal
          rw [if_neg hc] at hl
          refine Wp.stepsG 3 (fun cal X P' hk hX hP => ?_)
          show X (51, [some (.ref 76), none, some (.int f2), some (.int f3), some (.int v4), some (.int v5), some (.int (v6 + 1)), some (.int q2.1), some (.int q2.2), none], [], st S hs, 0, 0)
          refine hX _ ?_
          exact Wp.weak (leL.k (leL.k (leL.k (leL.k (leL.k (leL.k (leL.k (leL.n (leL.n (leL.k leL.z)))))))))) (ih v4 v5 (v6 + 1) q hl ct)
def r_X12_evening (S : St) (a1 : Int32) (a2 : Int32) (a3 : Int32) : Option (Int32 × St) :=
  if (r_X12_in a3 0 1) = 0 then
    some ((-10001), S)
  else
    if (r_X12_isTable S a1) = 0 then
      some ((-10002), S)
    else
      if (r_X12_in a2 1 40) = 0 then
        some ((-10002), S)
      else
        (r_X12_layFun S a1).bind fun q1 =>
        (lp_X12_evening_51 q1.2 a2 a3 4000 0 0 1).bind fun q3 =>
          if a3 = 0 then
            some (q3.1, q1.2)
          else
            some (q3.2, q1.2)
set_option maxRecDepth 20000 in
set_option maxHeartbeats 4000000 in
theorem e_X12_evening (d : Nat) (S : St) (hs : List Hr) (a1 : Int32) (a2 : Int32) (a3 : Int32) (v : Int32 × St) (hr : r_X12_evening S a1 a2 a3 = some v) (P : Option Value → Hp → Prop) (h : P (some (.int v.1)) (st v.2 hs)) : Ev (d + 8) ix_X12_evening 0 0 [.ref 76, .int a1, .int a2, .int a3] (st S hs) P := by
  refine Ev.intro (M := mi_X12_evening) rfl (Nat.le_of_ble_eq_true rfl) ?_
  unfold r_X12_evening at hr
  refine Wp.stepsG 5 (fun cal X P' hk hX hP => ?_)
  show kcall cal ix_X12_in [.ref 76, .int a3, .int 0, .int 1] (st S hs) [] 0 0 (0, 0) (fun v σ' c' m' => X (7, [some (.ref 76), some (.int a1), some (.int a2), some (.int a3), none, none, none, none, none, none], v.toList ++ [], σ', c', m'))
  refine kcall0 rfl (hk _ _ _ _ _ _ (e_X12_in (d + 6) S hs a3 0 1 _ ?_))
  show X (7, [some (.ref 76), some (.int a1), some (.int a2), some (.int a3), none, none, none, none, none, none], [.int (r_X12_in a3 0 1)], st S hs, 0, 0)
  refine hX _ ?_
  clear hP hX hk P' X cal
  refine Wp.stepsG 1 (fun cal X P' hk hX hP => ?_)
  show (¬ (r_X12_in a3 0 1) = 0 → X (14, [some (.ref 76), some (.int a1), some (.int a2), some (.int a3), none, none, none, none, none, none], [], st S hs, 0, 0)) ∧ ((r_X12_in a3 0 1) = 0 → X (10, [some (.ref 76), some (.int a1), some (.int a2), some (.int a3), none, none, none, none, none, none], [], st S hs, 0, 0))
  refine ⟨fun hc => hX _ ?_, fun hc => hX _ ?_⟩
  · clear hP hX hk P' X cal
    rw [if_neg hc] at hr
    refine Wp.stepsG 3 (fun cal X P' hk hX hP => ?_)
    show kcall cal ix_X12_isTable [.ref 76, .int a1] (st S hs) [] 0 0 (0, 0) (fun v σ' c' m' => X (19, [some (.ref 76), some (.int a1), some (.int a2), some (.int a3), none, none, none, none, none, none], v.toList ++ [], σ', c', m'))
    refine kcall0 rfl (hk _ _ _ _ _ _ (e_X12_isTable (d + 5) S hs a1 _ ?_))
    show X (19, [some (.ref 76), some (.int a1), some (.int a2), some (.int a3), none, none, none, none, none, none], [.int (r_X12_isTable S a1)], st S hs, 0, 0)
    refine hX _ ?_
    clear hP hX hk P' X cal
    refine Wp.stepsG 1 (fun cal X P' hk hX hP => ?_)
    show ((r_X12_isTable S a1) = 0 → X (33, [some (.ref 76), some (.int a1), some (.int a2), some (.int a3), none, none, none, none, none, none], [], st S hs, 0, 0)) ∧ (¬ (r_X12_isTable S a1) = 0 → X (22, [some (.ref 76), some (.int a1), some (.int a2), some (.int a3), none, none, none, none, none, none], [], st S hs, 0, 0))
    refine ⟨fun hc => hX _ ?_, fun hc => hX _ ?_⟩
    · clear hP hX hk P' X cal
      rw [if_pos hc] at hr
      have hr := Option.some.inj hr
      subst hr
      refine Wp.stepsG 2 (fun cal X P' hk hX hP => ?_)
      exact hP _ _ h
    · clear hP hX hk P' X cal
      rw [if_neg hc] at hr
      refine Wp.stepsG 5 (fun cal X P' hk hX hP => ?_)
      show kcall cal ix_X12_in [.ref 76, .int a2, .int 1, .int 40] (st S hs) [] 0 0 (0, 0) (fun v σ' c' m' => X (30, [some (.ref 76), some (.int a1), some (.int a2), some (.int a3), none, none, none, none, none, none], v.toList ++ [], σ', c', m'))
      refine kcall0 rfl (hk _ _ _ _ _ _ (e_X12_in (d + 6) S hs a2 1 40 _ ?_))
      show X (30, [some (.ref 76), some (.int a1), some (.int a2), some (.int a3), none, none, none, none, none, none], [.int (r_X12_in a2 1 40)], st S hs, 0, 0)
      refine hX _ ?_
      clear hP hX hk P' X cal
      refine Wp.stepsG 1 (fun cal X P' hk hX hP => ?_)
      show (¬ (r_X12_in a2 1 40) = 0 → X (37, [some (.ref 76), some (.int a1), some (.int a2), some (.int a3), none, none, none, none, none, none], [], st S hs, 0, 0)) ∧ ((r_X12_in a2 1 40) = 0 → X (33, [some (.ref 76), some (.int a1), some (.int a2), some (.int a3), none, none, none, none, none, none], [], st S hs, 0, 0))
      refine ⟨fun hc => hX _ ?_, fun hc => hX _ ?_⟩
      · clear hP hX hk P' X cal
        rw [if_neg hc] at hr
        refine Wp.stepsG 3 (fun cal X P' hk hX hP => ?_)
        show kcall cal ix_X12_layFun [.ref 76, .int a1] (st S hs) [] 0 0 (0, 0) (fun v σ' c' m' => X (42, [some (.ref 76), some (.int a1), some (.int a2), some (.int a3), none, none, none, none, none, none], v.toList ++ [], σ', c', m'))
        obtain ⟨q1, hq1, hr⟩ := bd_some hr
        refine kcall0 rfl (hk _ _ _ _ _ _ (e_X12_layFun (d + 0) S hs a1 q1 hq1 _ ?_))
        show X (42, [some (.ref 76), some (.int a1), some (.int a2), some (.int a3), none, none, none, none, none, none], [], st q1.2 hs, 0, 0)
        refine hX _ ?_
        clear hP hX hk P' X cal
        refine Wp.stepsG 6 (fun cal X P' hk hX hP => ?_)
        show X (51, [some (.ref 76), some (.int a1), some (.int a2), some (.int a3), some (.int 0), some (.int 0), some (.int 1), none, none, none], [], st q1.2 hs, 0, 0)
        refine hX _ ?_
        clear hP hX hk P' X cal
        obtain ⟨q3, hq3, hr⟩ := bd_some hr
        refine Wp.weak (leL.k (leL.n (leL.k (leL.k (leL.k (leL.k (leL.k (leL.k (leL.k (leL.k leL.z)))))))))) (e_lp_X12_evening_51 d hs P q1.2 a2 a3 _ 0 0 1 q3 hq3 ?_)
        refine Wp.stepsG 2 (fun cal X P' hk hX hP => ?_)
        show (¬ a3 = 0 → X (179, [some (.ref 76), none, some (.int a2), some (.int a3), some (.int q3.1), some (.int q3.2), none, none, none, none], [], st q1.2 hs, 0, 0)) ∧ (a3 = 0 → X (174, [some (.ref 76), none, some (.int a2), some (.int a3), some (.int q3.1), some (.int q3.2), none, none, none, none], [], st q1.2 hs, 0, 0))
        refine ⟨fun hc => hX _ ?_, fun hc => hX _ ?_⟩
        · clear hP hX hk P' X cal
          rw [if_neg hc] at hr
          have hr := Option.some.inj hr
          subst hr
          refine Wp.stepsG 2 (fun cal X P' hk hX hP => ?_)
          exact hP _ _ h
        · clear hP hX hk P' X cal
          rw [if_pos hc] at hr
          have hr := Option.some.inj hr
          subst hr
          refine Wp.stepsG 3 (fun cal X P' hk hX hP => ?_)
          exact hP _ _ h
      · clear hP hX hk P' X cal
        rw [if_pos hc] at hr
        have hr := Option.some.inj hr
        subst hr
        refine Wp.stepsG 2 (fun cal X P' hk hX hP => ?_)
        exact hP _ _ h
  · clear hP hX hk P' X cal
    rw [if_pos hc] at hr
    have hr := Option.some.inj hr
    subst hr
    refine Wp.stepsG 2 (fun cal X P' hk hX hP => ?_)
    exact hP _ _ h
def lp_X12_save_10 : Nat → Int32 → St → Option (St)
  | 0, _, _ => none
  | n + 1, v1, S =>
    if 48 ≤ v1 then
      some S
    else
      gd (¬ (v1 < 0 ∨ 48 ≤ v1.toNatClampNeg)) (
        gd (¬ (v1 < 0 ∨ 48 ≤ v1.toNatClampNeg)) (
          gd (¬ (v1 < 0 ∨ 48 ≤ v1.toNatClampNeg)) (
            gd (¬ (v1 < 0 ∨ 48 ≤ v1.toNatClampNeg)) (
              lp_X12_save_10 n (v1 + 1) (sA (sA S 95 (upd (S.1 95) v1.toNatClampNeg ((S.1 82) v1.toNatClampNeg))) 96 (upd (S.1 96) v1.toNatClampNeg ((S.1 83) v1.toNatClampNeg)))))))
set_option maxRecDepth 20000 in
set_option maxHeartbeats 4000000 in
theorem e_lp_X12_save_10 (d : Nat) (hs : List Hr) (P : Option Value → Hp → Prop) : ∀ (n : Nat) (v1 : Int32) (S : St) (q : St), lp_X12_save_10 n v1 S = some q → (WM mi_X12_save (d + 0) P 46 [some (.ref 76), none] [] (st q hs)) → WM mi_X12_save (d + 0) P 10 [some (.ref 76), some (.int v1)] [] (st S hs) := by
  intro n
  induction n with
  | zero =>
    intro v1 S q hl
    cases hl
  | succ n ih =>
    intro v1 S q hl ct
    rw [lp_X12_save_10] at hl
    refine Wp.stepsG 3 (fun cal X P' hk hX hP => ?_)
    show (48 ≤ v1 → X (46, [some (.ref 76), some (.int v1)], [], st S hs, 0, 0)) ∧ (¬ 48 ≤ v1 → X (16, [some (.ref 76), some (.int v1)], [], st S hs, 0, 0))
    refine ⟨fun hc => hX _ ?_, fun hc => hX _ ?_⟩
    · clear hP hX hk P' X cal
      rw [if_pos hc] at hl
      have hl := Option.some.inj hl
      subst hl
      exact Wp.weak (leL.k (leL.n leL.z)) (ct)
    · clear hP hX hk P' X cal
      rw [if_neg hc] at hl
      refine Wp.stepsG 7 (fun cal X P' hk hX hP => ?_)
      show vp_in v1 48 ∧ X (27, [some (.ref 76), some (.int v1)], [.int ((S.1 82) v1.toNatClampNeg), .int v1, .ref 95], st S hs, 0, 0)
      obtain ⟨hg, hl⟩ := gd_some hl
      refine ⟨hg, hX _ ?_⟩
      clear hP hX hk P' X cal
      refine Wp.stepsG 1 (fun cal X P' hk hX hP => ?_)
      show vp_in v1 48 ∧ X (28, [some (.ref 76), some (.int v1)], [], st (sA S 95 (upd (S.1 95) v1.toNatClampNeg ((S.1 82) v1.toNatClampNeg))) hs, 0, 0)
      obtain ⟨hg, hl⟩ := gd_some hl
      refine ⟨hg, hX _ ?_⟩
      clear hP hX hk P' X cal
      refine Wp.stepsG 7 (fun cal X P' hk hX hP => ?_)
      show vp_in v1 48 ∧ X (39, [some (.ref 76), some (.int v1)], [.int ((S.1 83) v1.toNatClampNeg), .int v1, .ref 96], st (sA S 95 (upd (S.1 95) v1.toNatClampNeg ((S.1 82) v1.toNatClampNeg))) hs, 0, 0)
      obtain ⟨hg, hl⟩ := gd_some hl
      refine ⟨hg, hX _ ?_⟩
      clear hP hX hk P' X cal
      refine Wp.stepsG 1 (fun cal X P' hk hX hP => ?_)
      show vp_in v1 48 ∧ X (40, [some (.ref 76), some (.int v1)], [], st (sA (sA S 95 (upd (S.1 95) v1.toNatClampNeg ((S.1 82) v1.toNatClampNeg))) 96 (upd (S.1 96) v1.toNatClampNeg ((S.1 83) v1.toNatClampNeg))) hs, 0, 0)
      obtain ⟨hg, hl⟩ := gd_some hl
      refine ⟨hg, hX _ ?_⟩
      clear hP hX hk P' X cal
      refine Wp.stepsG 2 (fun cal X P' hk hX hP => ?_)
      show X (10, [some (.ref 76), some (.int (v1 + 1))], [], st (sA (sA S 95 (upd (S.1 95) v1.toNatClampNeg ((S.1 82) v1.toNatClampNeg))) 96 (upd (S.1 96) v1.toNatClampNeg ((S.1 83) v1.toNatClampNeg))) hs, 0, 0)
      refine hX _ ?_
      exact (ih (v1 + 1) (sA (sA S 95 (upd (S.1 95) v1.toNatClampNeg ((S.1 82) v1.toNatClampNeg))) 96 (upd (S.1 96) v1.toNatClampNeg ((S.1 83) v1.toNatClampNeg))) q hl ct)
def r_X12_save (S : St) : Option (Int32 × St) :=
  (lp_X12_save_10 4000 0 (sI S 76 30 (S.1 76 2))).bind fun q1 =>
    some (0, q1)
set_option maxRecDepth 20000 in
set_option maxHeartbeats 4000000 in
theorem e_X12_save (d : Nat) (S : St) (hs : List Hr) (v : Int32 × St) (hr : r_X12_save S = some v) (P : Option Value → Hp → Prop) (h : P none (st v.2 hs)) : Ev (d + 1) ix_X12_save 0 0 [.ref 76] (st S hs) P := by
  refine Ev.intro (M := mi_X12_save) rfl (Nat.le_of_ble_eq_true rfl) ?_
  unfold r_X12_save at hr
  refine Wp.stepsG 6 (fun cal X P' hk hX hP => ?_)
  show X (10, [some (.ref 76), some (.int 0)], [], st (sI S 76 30 (S.1 76 2)) hs, 0, 0)
  refine hX _ ?_
  clear hP hX hk P' X cal
  obtain ⟨q1, hq1, hr⟩ := bd_some hr
  refine (e_lp_X12_save_10 d hs P _ 0 (sI S 76 30 (S.1 76 2)) q1 hq1 ?_)
  have hr := Option.some.inj hr
  subst hr
  refine Wp.stepsG 1 (fun cal X P' hk hX hP => ?_)
  exact hP _ _ h
def lp_X12_putBack_10 : Nat → Int32 → St → Option (St)
  | 0, _, _ => none
  | n + 1, v1, S =>
    if 48 ≤ v1 then
      some S
    else
      gd (¬ (v1 < 0 ∨ 48 ≤ v1.toNatClampNeg)) (
        gd (¬ (v1 < 0 ∨ 48 ≤ v1.toNatClampNeg)) (
          gd (¬ (v1 < 0 ∨ 48 ≤ v1.toNatClampNeg)) (
            gd (¬ (v1 < 0 ∨ 48 ≤ v1.toNatClampNeg)) (
              lp_X12_putBack_10 n (v1 + 1) (sA (sA S 82 (upd (S.1 82) v1.toNatClampNeg ((S.1 95) v1.toNatClampNeg))) 83 (upd (S.1 83) v1.toNatClampNeg ((S.1 96) v1.toNatClampNeg)))))))
set_option maxRecDepth 20000 in
set_option maxHeartbeats 4000000 in
theorem e_lp_X12_putBack_10 (d : Nat) (hs : List Hr) (P : Option Value → Hp → Prop) : ∀ (n : Nat) (v1 : Int32) (S : St) (q : St), lp_X12_putBack_10 n v1 S = some q → (WM mi_X12_putBack (d + 0) P 46 [some (.ref 76), none] [] (st q hs)) → WM mi_X12_putBack (d + 0) P 10 [some (.ref 76), some (.int v1)] [] (st S hs) := by
  intro n
  induction n with
  | zero =>
    intro v1 S q hl
    cases hl
  | succ n ih =>
    intro v1 S q hl ct
    rw [lp_X12_putBack_10] at hl
    refine Wp.stepsG 3 (fun cal X P' hk hX hP => ?_)
    show (48 ≤ v1 → X (46, [some (.ref 76), some (.int v1)], [], st S hs, 0, 0)) ∧ (¬ 48 ≤ v1 → X (16, [some (.ref 76), some (.int v1)], [], st S hs, 0, 0))
    refine ⟨fun hc => hX _ ?_, fun hc => hX _ ?_⟩
    · clear hP hX hk P' X cal
      rw [if_pos hc] at hl
      have hl := Option.some.inj hl
      subst hl
      exact Wp.weak (leL.k (leL.n leL.z)) (ct)
    · clear hP hX hk P' X cal
      rw [if_neg hc] at hl
      refine Wp.stepsG 7 (fun cal X P' hk hX hP => ?_)
      show vp_in v1 48 ∧ X (27, [some (.ref 76), some (.int v1)], [.int ((S.1 95) v1.toNatClampNeg), .int v1, .ref 82], st S hs, 0, 0)
      obtain ⟨hg, hl⟩ := gd_some hl
      refine ⟨hg, hX _ ?_⟩
      clear hP hX hk P' X cal
      refine Wp.stepsG 1 (fun cal X P' hk hX hP => ?_)
      show vp_in v1 48 ∧ X (28, [some (.ref 76), some (.int v1)], [], st (sA S 82 (upd (S.1 82) v1.toNatClampNeg ((S.1 95) v1.toNatClampNeg))) hs, 0, 0)
      obtain ⟨hg, hl⟩ := gd_some hl
      refine ⟨hg, hX _ ?_⟩
      clear hP hX hk P' X cal
      refine Wp.stepsG 7 (fun cal X P' hk hX hP => ?_)
      show vp_in v1 48 ∧ X (39, [some (.ref 76), some (.int v1)], [.int ((S.1 96) v1.toNatClampNeg), .int v1, .ref 83], st (sA S 82 (upd (S.1 82) v1.toNatClampNeg ((S.1 95) v1.toNatClampNeg))) hs, 0, 0)
      obtain ⟨hg, hl⟩ := gd_some hl
      refine ⟨hg, hX _ ?_⟩
      clear hP hX hk P' X cal
      refine Wp.stepsG 1 (fun cal X P' hk hX hP => ?_)
      show vp_in v1 48 ∧ X (40, [some (.ref 76), some (.int v1)], [], st (sA (sA S 82 (upd (S.1 82) v1.toNatClampNeg ((S.1 95) v1.toNatClampNeg))) 83 (upd (S.1 83) v1.toNatClampNeg ((S.1 96) v1.toNatClampNeg))) hs, 0, 0)
      obtain ⟨hg, hl⟩ := gd_some hl
      refine ⟨hg, hX _ ?_⟩
      clear hP hX hk P' X cal
      refine Wp.stepsG 2 (fun cal X P' hk hX hP => ?_)
      show X (10, [some (.ref 76), some (.int (v1 + 1))], [], st (sA (sA S 82 (upd (S.1 82) v1.toNatClampNeg ((S.1 95) v1.toNatClampNeg))) 83 (upd (S.1 83) v1.toNatClampNeg ((S.1 96) v1.toNatClampNeg))) hs, 0, 0)
      refine hX _ ?_
      exact (ih (v1 + 1) (sA (sA S 82 (upd (S.1 82) v1.toNatClampNeg ((S.1 95) v1.toNatClampNeg))) 83 (upd (S.1 83) v1.toNatClampNeg ((S.1 96) v1.toNatClampNeg))) q hl ct)
def r_X12_putBack (S : St) : Option (Int32 × St) :=
  (lp_X12_putBack_10 4000 0 (sI S 76 2 (S.1 76 30))).bind fun q1 =>
    some (0, q1)
set_option maxRecDepth 20000 in
set_option maxHeartbeats 4000000 in
theorem e_X12_putBack (d : Nat) (S : St) (hs : List Hr) (v : Int32 × St) (hr : r_X12_putBack S = some v) (P : Option Value → Hp → Prop) (h : P none (st v.2 hs)) : Ev (d + 1) ix_X12_putBack 0 0 [.ref 76] (st S hs) P := by
  refine Ev.intro (M := mi_X12_putBack) rfl (Nat.le_of_ble_eq_true rfl) ?_
  unfold r_X12_putBack at hr
  refine Wp.stepsG 6 (fun cal X P' hk hX hP => ?_)
  show X (10, [some (.ref 76), some (.int 0)], [], st (sI S 76 2 (S.1 76 30)) hs, 0, 0)
  refine hX _ ?_
  clear hP hX hk P' X cal
  obtain ⟨q1, hq1, hr⟩ := bd_some hr
  refine (e_lp_X12_putBack_10 d hs P _ 0 (sI S 76 2 (S.1 76 30)) q1 hq1 ?_)
  have hr := Option.some.inj hr
  subst hr
  refine Wp.stepsG 1 (fun cal X P' hk hX hP => ?_)
  exact hP _ _ h
def lp_X12_coffee_47 (f1 : Int32) (f2 : Int32) : Nat → Int32 → Int32 → Int32 → St → Option (Int32 × Int32 × St)
  | 0, _, _, _, _ => none
  | n + 1, v3, v4, v5, S =>
    if v5 < 0 then
      some (v3, v4, S)
    else
      (r_X12_laughter S v5 f1).bind fun q3 =>
      if q3.1 ≤ 0 then
        some (v3, v4, q3.2)
      else
        (r_X12_tells q3.2 v5 f1).bind fun q4 =>
        (r_X12_bestOf (sI q4.2 76 28 ((q4.2.1 76 28) ||| ((1 : Int32) <<< (v5 &&& 31)))) f1).bind fun q5 =>
        lp_X12_coffee_47 f1 f2 n (v3 + 1) (v4 + q4.1) q5.1 q5.2
set_option maxRecDepth 20000 in
set_option maxHeartbeats 4000000 in
theorem e_lp_X12_coffee_47 (d : Nat) (hs : List Hr) (P : Option Value → Hp → Prop) (f1 : Int32) (f2 : Int32) : ∀ (n : Nat) (v3 : Int32) (v4 : Int32) (v5 : Int32) (S : St) (q : Int32 × Int32 × St), lp_X12_coffee_47 f1 f2 n v3 v4 v5 S = some q → (WM mi_X12_coffee (d + 7) P 100 [some (.ref 76), some (.int f1), some (.int f2), some (.int q.1), some (.int q.2.1), none] [] (st q.2.2 hs)) → WM mi_X12_coffee (d + 7) P 47 [some (.ref 76), some (.int f1), some (.int f2), some (.int v3), some (.int v4), some (.int v5)] [] (st S hs) := by
  intro n
  induction n with
  | zero =>
    intro v3 v4 v5 S q hl
    cases hl
  | succ n ih =>
    intro v3 v4 v5 S q hl ct
    rw [lp_X12_coffee_47] at hl
    refine Wp.stepsG 2 (fun cal X P' hk hX hP => ?_)
    show (v5 < 0 → X (100, [some (.ref 76), some (.int f1), some (.int f2), some (.int v3), some (.int v4), some (.int v5)], [], st S hs, 0, 0)) ∧ (¬ v5 < 0 → X (52, [some (.ref 76), some (.int f1), some (.int f2), some (.int v3), some (.int v4), some (.int v5)], [], st S hs, 0, 0))
    refine ⟨fun hc => hX _ ?_, fun hc => hX _ ?_⟩
    · clear hP hX hk P' X cal
      rw [if_pos hc] at hl
      have hl := Option.some.inj hl
      subst hl
      exact Wp.weak (leL.k (leL.k (leL.k (leL.k (leL.k (leL.n leL.z)))))) (ct)
    · clear hP hX hk P' X cal
      rw [if_neg hc] at hl
      refine Wp.stepsG 4 (fun cal X P' hk hX hP => ?_)
      show kcall cal ix_X12_laughter [.ref 76, .int v5, .int f1] (st S hs) [] 0 0 (0, 0) (fun v σ' c' m' => X (59, [some (.ref 76), some (.int f1), some (.int f2), some (.int v3), some (.int v4), some (.int v5)], v.toList ++ [], σ', c', m'))
      obtain ⟨q3, hq3, hl⟩ := bd_some hl
      refine kcall0 rfl (hk _ _ _ _ _ _ (e_X12_laughter (d + 1) S hs v5 f1 q3 hq3 _ ?_))
      show X (59, [some (.ref 76), some (.int f1), some (.int f2), some (.int v3), some (.int v4), some (.int v5)], [.int q3.1], st q3.2 hs, 0, 0)
      refine hX _ ?_
      clear hP hX hk P' X cal
      refine Wp.stepsG 1 (fun cal X P' hk hX hP => ?_)
      show (q3.1 ≤ 0 → X (100, [some (.ref 76), some (.int f1), some (.int f2), some (.int v3), some (.int v4), some (.int v5)], [], st q3.2 hs, 0, 0)) ∧ (¬ q3.1 ≤ 0 → X (62, [some (.ref 76), some (.int f1), some (.int f2), some (.int v3), some (.int v4), some (.int v5)], [], st q3.2 hs, 0, 0))
      refine ⟨fun hc => hX _ ?_, fun hc => hX _ ?_⟩
      · clear hP hX hk P' X cal
        rw [if_pos hc] at hl
        have hl := Option.some.inj hl
        subst hl
        exact Wp.weak (leL.k (leL.k (leL.k (leL.k (leL.k (leL.n leL.z)))))) (ct)
      · clear hP hX hk P' X cal
        rw [if_neg hc] at hl
        refine Wp.stepsG 5 (fun cal X P' hk hX hP => ?_)
        show kcall cal ix_X12_tells [.ref 76, .int v5, .int f1] (st q3.2 hs) [.int v4] 0 0 (0, 0) (fun v σ' c' m' => X (71, [some (.ref 76), some (.int f1), some (.int f2), some (.int v3), some (.int v4), some (.int v5)], v.toList ++ [.int v4], σ', c', m'))
        obtain ⟨q4, hq4, hl⟩ := bd_some hl
        refine kcall0 rfl (hk _ _ _ _ _ _ (e_X12_tells (d + 0) q3.2 hs v5 f1 q4 hq4 _ ?_))
        show X (71, [some (.ref 76), some (.int f1), some (.int f2), some (.int v3), some (.int v4), some (.int v5)], [.int q4.1, .int v4], st q4.2 hs, 0, 0)
        refine hX _ ?_
        clear hP hX hk P' X cal
        refine Wp.stepsG 14 (fun cal X P' hk hX hP => ?_)
        show kcall cal ix_X12_bestOf [.ref 76, .int f1] (st (sI q4.2 76 28 ((q4.2.1 76 28) ||| ((1 : Int32) <<< (v5 &&& 31)))) hs) [] 0 0 (0, 0) (fun v σ' c' m' => X (95, [some (.ref 76), some (.int f1), some (.int f2), some (.int (v3 + 1)), some (.int (v4 + q4.1)), some (.int v5)], v.toList ++ [], σ', c', m'))
        obtain ⟨q5, hq5, hl⟩ := bd_some hl
        refine kcall0 rfl (hk _ _ _ _ _ _ (e_X12_bestOf (d + 0) (sI q4.2 76 28 ((q4.2.1 76 28) ||| ((1 : Int32) <<< (v5 &&& 31)))) hs f1 q5 hq5 _ ?_))
        show X (95, [some (.ref 76), some (.int f1), some (.int f2), some (.int (v3 + 1)), some (.int (v4 + q4.1)), some (.int v5)], [.int q5.1], st q5.2 hs, 0, 0)
        refine hX _ ?_
        clear hP hX hk P' X cal
        refine Wp.stepsG 2 (fun cal X P' hk hX hP => ?_)
        show X (47, [some (.ref 76), some (.int f1), some (.int f2), some (.int (v3 + 1)), some (.int (v4 + q4.1)), some (.int q5.1)], [], st q5.2 hs, 0, 0)
        refine hX _ ?_
        exact (ih (v3 + 1) (v4 + q4.1) q5.1 q5.2 q hl ct)
def r_X12_coffee (S : St) (a1 : Int32) (a2 : Int32) : Option (Int32 × St) :=
  if (r_X12_in a2 0 1) = 0 then
    some ((-10001), S)
  else
    if (r_X12_isTable S a1) = 0 then
      some ((-10002), S)
    else
      (r_X12_save S).bind fun q1 =>
      (r_X12_bestOf (sI q1.2 76 28 0) a1).bind fun q2 =>
      (lp_X12_coffee_47 a1 a2 4000 0 0 q2.1 q2.2).bind fun q6 =>
        (r_X12_putBack (sI q6.2.2 76 28 0)).bind fun q7 =>
        if a2 = 0 then
          some (q6.1, q7.2)
        else
          some (q6.2.1, q7.2)
set_option maxRecDepth 20000 in
set_option maxHeartbeats 4000000 in
theorem e_X12_coffee (d : Nat) (S : St) (hs : List Hr) (a1 : Int32) (a2 : Int32) (v : Int32 × St) (hr : r_X12_coffee S a1 a2 = some v) (P : Option Value → Hp → Prop) (h : P (some (.int v.1)) (st v.2 hs)) : Ev (d + 8) ix_X12_coffee 0 0 [.ref 76, .int a1, .int a2] (st S hs) P := by
  refine Ev.intro (M := mi_X12_coffee) rfl (Nat.le_of_ble_eq_true rfl) ?_
  unfold r_X12_coffee at hr
  refine Wp.stepsG 5 (fun cal X P' hk hX hP => ?_)
  show kcall cal ix_X12_in [.ref 76, .int a2, .int 0, .int 1] (st S hs) [] 0 0 (0, 0) (fun v σ' c' m' => X (7, [some (.ref 76), some (.int a1), some (.int a2), none, none, none], v.toList ++ [], σ', c', m'))
  refine kcall0 rfl (hk _ _ _ _ _ _ (e_X12_in (d + 6) S hs a2 0 1 _ ?_))
  show X (7, [some (.ref 76), some (.int a1), some (.int a2), none, none, none], [.int (r_X12_in a2 0 1)], st S hs, 0, 0)
  refine hX _ ?_
  clear hP hX hk P' X cal
  refine Wp.stepsG 1 (fun cal X P' hk hX hP => ?_)
  show (¬ (r_X12_in a2 0 1) = 0 → X (14, [some (.ref 76), some (.int a1), some (.int a2), none, none, none], [], st S hs, 0, 0)) ∧ ((r_X12_in a2 0 1) = 0 → X (10, [some (.ref 76), some (.int a1), some (.int a2), none, none, none], [], st S hs, 0, 0))
  refine ⟨fun hc => hX _ ?_, fun hc => hX _ ?_⟩
  · clear hP hX hk P' X cal
    rw [if_neg hc] at hr
    refine Wp.stepsG 3 (fun cal X P' hk hX hP => ?_)
    show kcall cal ix_X12_isTable [.ref 76, .int a1] (st S hs) [] 0 0 (0, 0) (fun v σ' c' m' => X (19, [some (.ref 76), some (.int a1), some (.int a2), none, none, none], v.toList ++ [], σ', c', m'))
    refine kcall0 rfl (hk _ _ _ _ _ _ (e_X12_isTable (d + 5) S hs a1 _ ?_))
    show X (19, [some (.ref 76), some (.int a1), some (.int a2), none, none, none], [.int (r_X12_isTable S a1)], st S hs, 0, 0)
    refine hX _ ?_
    clear hP hX hk P' X cal
    refine Wp.stepsG 1 (fun cal X P' hk hX hP => ?_)
    show (¬ (r_X12_isTable S a1) = 0 → X (26, [some (.ref 76), some (.int a1), some (.int a2), none, none, none], [], st S hs, 0, 0)) ∧ ((r_X12_isTable S a1) = 0 → X (22, [some (.ref 76), some (.int a1), some (.int a2), none, none, none], [], st S hs, 0, 0))
    refine ⟨fun hc => hX _ ?_, fun hc => hX _ ?_⟩
    · clear hP hX hk P' X cal
      rw [if_neg hc] at hr
      refine Wp.stepsG 2 (fun cal X P' hk hX hP => ?_)
      show kcall cal ix_X12_save [.ref 76] (st S hs) [] 0 0 (0, 0) (fun v σ' c' m' => X (30, [some (.ref 76), some (.int a1), some (.int a2), none, none, none], v.toList ++ [], σ', c', m'))
      obtain ⟨q1, hq1, hr⟩ := bd_some hr
      refine kcall0 rfl (hk _ _ _ _ _ _ (e_X12_save (d + 6) S hs q1 hq1 _ ?_))
      show X (30, [some (.ref 76), some (.int a1), some (.int a2), none, none, none], [], st q1.2 hs, 0, 0)
      refine hX _ ?_
      clear hP hX hk P' X cal
      refine Wp.stepsG 10 (fun cal X P' hk hX hP => ?_)
      show kcall cal ix_X12_bestOf [.ref 76, .int a1] (st (sI q1.2 76 28 0) hs) [] 0 0 (0, 0) (fun v σ' c' m' => X (45, [some (.ref 76), some (.int a1), some (.int a2), some (.int 0), some (.int 0), none], v.toList ++ [], σ', c', m'))
      obtain ⟨q2, hq2, hr⟩ := bd_some hr
      refine kcall0 rfl (hk _ _ _ _ _ _ (e_X12_bestOf (d + 0) (sI q1.2 76 28 0) hs a1 q2 hq2 _ ?_))
      show X (45, [some (.ref 76), some (.int a1), some (.int a2), some (.int 0), some (.int 0), none], [.int q2.1], st q2.2 hs, 0, 0)
      refine hX _ ?_
      clear hP hX hk P' X cal
      refine Wp.stepsG 1 (fun cal X P' hk hX hP => ?_)
      show X (47, [some (.ref 76), some (.int a1), some (.int a2), some (.int 0), some (.int 0), some (.int q2.1)], [], st q2.2 hs, 0, 0)
      refine hX _ ?_
      clear hP hX hk P' X cal
      obtain ⟨q6, hq6, hr⟩ := bd_some hr
      refine (e_lp_X12_coffee_47 d hs P a1 a2 _ 0 0 q2.1 q2.2 q6 hq6 ?_)
      refine Wp.stepsG 5 (fun cal X P' hk hX hP => ?_)
      show kcall cal ix_X12_putBack [.ref 76] (st (sI q6.2.2 76 28 0) hs) [] 0 0 (0, 0) (fun v σ' c' m' => X (109, [some (.ref 76), some (.int a1), some (.int a2), some (.int q6.1), some (.int q6.2.1), none], v.toList ++ [], σ', c', m'))
      obtain ⟨q7, hq7, hr⟩ := bd_some hr
      refine kcall0 rfl (hk _ _ _ _ _ _ (e_X12_putBack (d + 6) (sI q6.2.2 76 28 0) hs q7 hq7 _ ?_))
      show X (109, [some (.ref 76), some (.int a1), some (.int a2), some (.int q6.1), some (.int q6.2.1), none], [], st q7.2 hs, 0, 0)
      refine hX _ ?_
      clear hP hX hk P' X cal
      refine Wp.stepsG 2 (fun cal X P' hk hX hP => ?_)
      show (¬ a2 = 0 → X (117, [some (.ref 76), some (.int a1), some (.int a2), some (.int q6.1), some (.int q6.2.1), none], [], st q7.2 hs, 0, 0)) ∧ (a2 = 0 → X (113, [some (.ref 76), some (.int a1), some (.int a2), some (.int q6.1), some (.int q6.2.1), none], [], st q7.2 hs, 0, 0))
      refine ⟨fun hc => hX _ ?_, fun hc => hX _ ?_⟩
      · clear hP hX hk P' X cal
        rw [if_neg hc] at hr
        have hr := Option.some.inj hr
        subst hr
        refine Wp.stepsG 2 (fun cal X P' hk hX hP => ?_)
        exact hP _ _ h
      · clear hP hX hk P' X cal
        rw [if_pos hc] at hr
        have hr := Option.some.inj hr
        subst hr
        refine Wp.stepsG 3 (fun cal X P' hk hX hP => ?_)
        exact hP _ _ h
    · clear hP hX hk P' X cal
      rw [if_pos hc] at hr
      have hr := Option.some.inj hr
      subst hr
      refine Wp.stepsG 2 (fun cal X P' hk hX hP => ?_)
      exact hP _ _ h
  · clear hP hX hk P' X cal
    rw [if_pos hc] at hr
    have hr := Option.some.inj hr
    subst hr
    refine Wp.stepsG 2 (fun cal X P' hk hX hP => ?_)
    exact hP _ _ h
