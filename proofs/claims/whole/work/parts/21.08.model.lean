def r_X12_see (S : St) (a1 : Int32) (a2 : Int32) : Option (Int32 × St) :=
  if a1 = (-1) then
    some (0, sI S 76 37 0)
  else
    if (r_X12_isStory S a1) = 0 then
      some ((-1), S)
    else
      if (r_X12_isTable S a2) = 0 then
        some ((-2), S)
      else
        if (S.1 76 37) = 6 then
          some ((-4), S)
        else
          gd (¬ ((S.1 76 37) < 0 ∨ 6 ≤ (S.1 76 37).toNatClampNeg)) (
            gd (¬ ((S.1 76 37) < 0 ∨ 6 ≤ (S.1 76 37).toNatClampNeg)) (
              some ((S.1 76 37) + 1, sI (sA (sA S 101 (upd (S.1 101) (S.1 76 37).toNatClampNeg a1)) 102 (upd (S.1 102) (S.1 76 37).toNatClampNeg a2)) 76 37 ((S.1 76 37) + 1))))
set_option maxRecDepth 20000 in
set_option maxHeartbeats 4000000 in
theorem e_X12_see (d : Nat) (S : St) (hs : List Hr) (a1 : Int32) (a2 : Int32) (v : Int32 × St) (hr : r_X12_see S a1 a2 = some v) (P : Option Value → Hp → Prop) (h : P (some (.int v.1)) (st v.2 hs)) : Ev (d + 3) ix_X12_see 0 0 [.ref 76, .int a1, .int a2] (st S hs) P := by
  refine Ev.intro (M := mi_X12_see) rfl (Nat.le_of_ble_eq_true rfl) ?_
  unfold r_X12_see at hr
  refine Wp.stepsG 3 (fun cal X P' hk hX hP => ?_)
  show (¬ a1 = (-1) → X (12, [some (.ref 76), some (.int a1), some (.int a2)], [], st S hs, 0, 0)) ∧ (a1 = (-1) → X (5, [some (.ref 76), some (.int a1), some (.int a2)], [], st S hs, 0, 0))
  refine ⟨fun hc => hX _ ?_, fun hc => hX _ ?_⟩
  · clear hP hX hk P' X cal
    rw [if_neg hc] at hr
    refine Wp.stepsG 3 (fun cal X P' hk hX hP => ?_)
    show kcall cal ix_X12_isStory [.ref 76, .int a1] (st S hs) [] 0 0 (0, 0) (fun v σ' c' m' => X (17, [some (.ref 76), some (.int a1), some (.int a2)], v.toList ++ [], σ', c', m'))
    refine kcall0 rfl (hk _ _ _ _ _ _ (e_X12_isStory (d + 0) S hs a1 _ ?_))
    show X (17, [some (.ref 76), some (.int a1), some (.int a2)], [.int (r_X12_isStory S a1)], st S hs, 0, 0)
    refine hX _ ?_
    clear hP hX hk P' X cal
    refine Wp.stepsG 1 (fun cal X P' hk hX hP => ?_)
    show (¬ (r_X12_isStory S a1) = 0 → X (22, [some (.ref 76), some (.int a1), some (.int a2)], [], st S hs, 0, 0)) ∧ ((r_X12_isStory S a1) = 0 → X (20, [some (.ref 76), some (.int a1), some (.int a2)], [], st S hs, 0, 0))
    refine ⟨fun hc => hX _ ?_, fun hc => hX _ ?_⟩
    · clear hP hX hk P' X cal
      rw [if_neg hc] at hr
      refine Wp.stepsG 3 (fun cal X P' hk hX hP => ?_)
      show kcall cal ix_X12_isTable [.ref 76, .int a2] (st S hs) [] 0 0 (0, 0) (fun v σ' c' m' => X (27, [some (.ref 76), some (.int a1), some (.int a2)], v.toList ++ [], σ', c', m'))
      refine kcall0 rfl (hk _ _ _ _ _ _ (e_X12_isTable (d + 0) S hs a2 _ ?_))
      show X (27, [some (.ref 76), some (.int a1), some (.int a2)], [.int (r_X12_isTable S a2)], st S hs, 0, 0)
      refine hX _ ?_
      clear hP hX hk P' X cal
      refine Wp.stepsG 1 (fun cal X P' hk hX hP => ?_)
      show (¬ (r_X12_isTable S a2) = 0 → X (33, [some (.ref 76), some (.int a1), some (.int a2)], [], st S hs, 0, 0)) ∧ ((r_X12_isTable S a2) = 0 → X (30, [some (.ref 76), some (.int a1), some (.int a2)], [], st S hs, 0, 0))
      refine ⟨fun hc => hX _ ?_, fun hc => hX _ ?_⟩
      · clear hP hX hk P' X cal
        rw [if_neg hc] at hr
        refine Wp.stepsG 4 (fun cal X P' hk hX hP => ?_)
        show (¬ (S.1 76 37) = 6 → X (45, [some (.ref 76), some (.int a1), some (.int a2)], [], st S hs, 0, 0)) ∧ ((S.1 76 37) = 6 → X (42, [some (.ref 76), some (.int a1), some (.int a2)], [], st S hs, 0, 0))
        refine ⟨fun hc => hX _ ?_, fun hc => hX _ ?_⟩
        · clear hP hX hk P' X cal
          rw [if_neg hc] at hr
          refine Wp.stepsG 6 (fun cal X P' hk hX hP => ?_)
          show vp_in (S.1 76 37) 6 ∧ X (55, [some (.ref 76), some (.int a1), some (.int a2)], [], st (sA S 101 (upd (S.1 101) (S.1 76 37).toNatClampNeg a1)) hs, 0, 0)
          obtain ⟨hg, hr⟩ := gd_some hr
          refine ⟨hg, hX _ ?_⟩
          clear hP hX hk P' X cal
          refine Wp.stepsG 6 (fun cal X P' hk hX hP => ?_)
          show vp_in (S.1 76 37) 6 ∧ X (65, [some (.ref 76), some (.int a1), some (.int a2)], [], st (sA (sA S 101 (upd (S.1 101) (S.1 76 37).toNatClampNeg a1)) 102 (upd (S.1 102) (S.1 76 37).toNatClampNeg a2)) hs, 0, 0)
          obtain ⟨hg, hr⟩ := gd_some hr
          refine ⟨hg, hX _ ?_⟩
          clear hP hX hk P' X cal
          have hr := Option.some.inj hr
          subst hr
          refine Wp.stepsG 9 (fun cal X P' hk hX hP => ?_)
          exact hP _ _ h
        · clear hP hX hk P' X cal
          rw [if_pos hc] at hr
          have hr := Option.some.inj hr
          subst hr
          refine Wp.stepsG 2 (fun cal X P' hk hX hP => ?_)
          exact hP _ _ h
      · clear hP hX hk P' X cal
        rw [if_pos hc] at hr
        have hr := Option.some.inj hr
        subst hr
        refine Wp.stepsG 2 (fun cal X P' hk hX hP => ?_)
        exact hP _ _ h
    · clear hP hX hk P' X cal
      rw [if_pos hc] at hr
      have hr := Option.some.inj hr
      subst hr
      refine Wp.stepsG 2 (fun cal X P' hk hX hP => ?_)
      exact hP _ _ h
  · clear hP hX hk P' X cal
    rw [if_pos hc] at hr
    have hr := Option.some.inj hr
    subst hr
    refine Wp.stepsG 5 (fun cal X P' hk hX hP => ?_)
    exact hP _ _ h
def lp_X12_guess_14 (f1 : Int32) : Nat → Int32 → Int32 → St → Option (Int32 × St)
  | 0, _, _, _ => none
  | n + 1, v2, v3, S =>
    if (S.1 76 37) ≤ v3 then
      some (v2, S)
    else
      gd (¬ (v3 < 0 ∨ 6 ≤ v3.toNatClampNeg)) (
        if (r_X12_has ((S.1 102) v3.toNatClampNeg) f1) = 0 then
          lp_X12_guess_14 f1 n (v2 ||| 0) (v3 + 1) S
        else
          gd (¬ (v3 < 0 ∨ 6 ≤ v3.toNatClampNeg)) (
            (r_X12_laughOf S f1 ((S.1 101) v3.toNatClampNeg)).bind fun q1 =>
            if q1.1 < 0 then
              lp_X12_guess_14 f1 n (v2 ||| 0) (v3 + 1) q1.2
            else
              gd (¬ (v3 < 0 ∨ 6 ≤ v3.toNatClampNeg)) (
                lp_X12_guess_14 f1 n (v2 ||| ((1 : Int32) <<< (((q1.2.1 101) v3.toNatClampNeg) &&& 31))) (v3 + 1) q1.2)))
set_option maxRecDepth 20000 in
set_option maxHeartbeats 4000000 in
theorem e_lp_X12_guess_14 (d : Nat) (hs : List Hr) (P : Option Value → Hp → Prop) (f1 : Int32) : ∀ (n : Nat) (v2 : Int32) (v3 : Int32) (S : St) (q : Int32 × St), lp_X12_guess_14 f1 n v2 v3 S = some q → (WM mi_X12_guess (d + 5) P 71 [some (.ref 76), some (.int f1), some (.int q.1), none] [] (st q.2 hs)) → WM mi_X12_guess (d + 5) P 14 [some (.ref 76), some (.int f1), some (.int v2), some (.int v3)] [] (st S hs) := by
  intro n
  induction n with
  | zero =>
    intro v2 v3 S q hl
    cases hl
  | succ n ih =>
    intro v2 v3 S q hl ct
    rw [lp_X12_guess_14] at hl
    refine Wp.stepsG 4 (fun cal X P' hk hX hP => ?_)
    show ((S.1 76 37) ≤ v3 → X (71, [some (.ref 76), some (.int f1), some (.int v2), some (.int v3)], [], st S hs, 0, 0)) ∧ (¬ (S.1 76 37) ≤ v3 → X (22, [some (.ref 76), some (.int f1), some (.int v2), some (.int v3)], [], st S hs, 0, 0))
    refine ⟨fun hc => hX _ ?_, fun hc => hX _ ?_⟩
    · clear hP hX hk P' X cal
      rw [if_pos hc] at hl
      have hl := Option.some.inj hl
      subst hl
      exact Wp.weak (leL.k (leL.k (leL.k (leL.n leL.z)))) (ct)
    · clear hP hX hk P' X cal
      rw [if_neg hc] at hl
      refine Wp.stepsG 6 (fun cal X P' hk hX hP => ?_)
      show vp_in v3 6 ∧ X (30, [some (.ref 76), some (.int f1), some (.int v2), some (.int v3)], [.int ((S.1 102) v3.toNatClampNeg), .ref 76, .int v2], st S hs, 0, 0)
      obtain ⟨hg, hl⟩ := gd_some hl
      refine ⟨hg, hX _ ?_⟩
      clear hP hX hk P' X cal
      refine Wp.stepsG 2 (fun cal X P' hk hX hP => ?_)
      show kcall cal ix_X12_has [.ref 76, .int ((S.1 102) v3.toNatClampNeg), .int f1] (st S hs) [.int v2] 0 0 (0, 0) (fun v σ' c' m' => X (34, [some (.ref 76), some (.int f1), some (.int v2), some (.int v3)], v.toList ++ [.int v2], σ', c', m'))
      refine kcall0 rfl (hk _ _ _ _ _ _ (e_X12_has (d + 4) S hs ((S.1 102) v3.toNatClampNeg) f1 _ ?_))
      show X (34, [some (.ref 76), some (.int f1), some (.int v2), some (.int v3)], [.int (r_X12_has ((S.1 102) v3.toNatClampNeg) f1), .int v2], st S hs, 0, 0)
      refine hX _ ?_
      clear hP hX hk P' X cal
      refine Wp.stepsG 1 (fun cal X P' hk hX hP => ?_)
      show ((r_X12_has ((S.1 102) v3.toNatClampNeg) f1) = 0 → X (62, [some (.ref 76), some (.int f1), some (.int v2), some (.int v3)], [.int v2], st S hs, 0, 0)) ∧ (¬ (r_X12_has ((S.1 102) v3.toNatClampNeg) f1) = 0 → X (37, [some (.ref 76), some (.int f1), some (.int v2), some (.int v3)], [.int v2], st S hs, 0, 0))
      refine ⟨fun hc => hX _ ?_, fun hc => hX _ ?_⟩
      · clear hP hX hk P' X cal
        rw [if_pos hc] at hl
        refine Wp.stepsG 5 (fun cal X P' hk hX hP => ?_)
        show X (14, [some (.ref 76), some (.int f1), some (.int (v2 ||| 0)), some (.int (v3 + 1))], [], st S hs, 0, 0)
        refine hX _ ?_
        exact (ih (v2 ||| 0) (v3 + 1) S q hl ct)
      · clear hP hX hk P' X cal
        rw [if_neg hc] at hl
        refine Wp.stepsG 6 (fun cal X P' hk hX hP => ?_)
        show vp_in v3 6 ∧ X (45, [some (.ref 76), some (.int f1), some (.int v2), some (.int v3)], [.int ((S.1 101) v3.toNatClampNeg), .int f1, .ref 76, .int v2], st S hs, 0, 0)
        obtain ⟨hg, hl⟩ := gd_some hl
        refine ⟨hg, hX _ ?_⟩
        clear hP hX hk P' X cal
        refine Wp.stepsG 1 (fun cal X P' hk hX hP => ?_)
        show kcall cal ix_X12_laughOf [.ref 76, .int f1, .int ((S.1 101) v3.toNatClampNeg)] (st S hs) [.int v2] 0 0 (0, 0) (fun v σ' c' m' => X (48, [some (.ref 76), some (.int f1), some (.int v2), some (.int v3)], v.toList ++ [.int v2], σ', c', m'))
        obtain ⟨q1, hq1, hl⟩ := bd_some hl
        refine kcall0 rfl (hk _ _ _ _ _ _ (e_X12_laughOf (d + 0) S hs f1 ((S.1 101) v3.toNatClampNeg) q1 hq1 _ ?_))
        show X (48, [some (.ref 76), some (.int f1), some (.int v2), some (.int v3)], [.int q1.1, .int v2], st q1.2 hs, 0, 0)
        refine hX _ ?_
        clear hP hX hk P' X cal
        refine Wp.stepsG 1 (fun cal X P' hk hX hP => ?_)
        show (q1.1 < 0 → X (62, [some (.ref 76), some (.int f1), some (.int v2), some (.int v3)], [.int v2], st q1.2 hs, 0, 0)) ∧ (¬ q1.1 < 0 → X (51, [some (.ref 76), some (.int f1), some (.int v2), some (.int v3)], [.int v2], st q1.2 hs, 0, 0))
        refine ⟨fun hc => hX _ ?_, fun hc => hX _ ?_⟩
        · clear hP hX hk P' X cal
          rw [if_pos hc] at hl
          refine Wp.stepsG 5 (fun cal X P' hk hX hP => ?_)
          show X (14, [some (.ref 76), some (.int f1), some (.int (v2 ||| 0)), some (.int (v3 + 1))], [], st q1.2 hs, 0, 0)
          refine hX _ ?_
          exact (ih (v2 ||| 0) (v3 + 1) q1.2 q hl ct)
        · clear hP hX hk P' X cal
          rw [if_neg hc] at hl
          refine Wp.stepsG 5 (fun cal X P' hk hX hP => ?_)
          show vp_in v3 6 ∧ X (58, [some (.ref 76), some (.int f1), some (.int v2), some (.int v3)], [.int ((q1.2.1 101) v3.toNatClampNeg), .int 1, .int v2], st q1.2 hs, 0, 0)
          obtain ⟨hg, hl⟩ := gd_some hl
          refine ⟨hg, hX _ ?_⟩
          clear hP hX hk P' X cal
          refine Wp.stepsG 6 (fun cal X P' hk hX hP => ?_)
          show X (14, [some (.ref 76), some (.int f1), some (.int (v2 ||| ((1 : Int32) <<< (((q1.2.1 101) v3.toNatClampNeg) &&& 31)))), some (.int (v3 + 1))], [], st q1.2 hs, 0, 0)
          refine hX _ ?_
          exact (ih (v2 ||| ((1 : Int32) <<< (((q1.2.1 101) v3.toNatClampNeg) &&& 31))) (v3 + 1) q1.2 q hl ct)
def r_X12_guess (S : St) (a1 : Int32) : Option (Int32 × St) :=
  if (r_X12_isHearer S a1) = 0 then
    some ((-1), S)
  else
    (lp_X12_guess_14 a1 4000 0 0 S).bind fun q2 =>
      some (q2.1, q2.2)
set_option maxRecDepth 20000 in
set_option maxHeartbeats 4000000 in
theorem e_X12_guess (d : Nat) (S : St) (hs : List Hr) (a1 : Int32) (v : Int32 × St) (hr : r_X12_guess S a1 = some v) (P : Option Value → Hp → Prop) (h : P (some (.int v.1)) (st v.2 hs)) : Ev (d + 6) ix_X12_guess 0 0 [.ref 76, .int a1] (st S hs) P := by
  refine Ev.intro (M := mi_X12_guess) rfl (Nat.le_of_ble_eq_true rfl) ?_
  unfold r_X12_guess at hr
  refine Wp.stepsG 3 (fun cal X P' hk hX hP => ?_)
  show kcall cal ix_X12_isHearer [.ref 76, .int a1] (st S hs) [] 0 0 (0, 0) (fun v σ' c' m' => X (5, [some (.ref 76), some (.int a1), none, none], v.toList ++ [], σ', c', m'))
  refine kcall0 rfl (hk _ _ _ _ _ _ (e_X12_isHearer (d + 3) S hs a1 _ ?_))
  show X (5, [some (.ref 76), some (.int a1), none, none], [.int (r_X12_isHearer S a1)], st S hs, 0, 0)
  refine hX _ ?_
  clear hP hX hk P' X cal
  refine Wp.stepsG 1 (fun cal X P' hk hX hP => ?_)
  show (¬ (r_X12_isHearer S a1) = 0 → X (10, [some (.ref 76), some (.int a1), none, none], [], st S hs, 0, 0)) ∧ ((r_X12_isHearer S a1) = 0 → X (8, [some (.ref 76), some (.int a1), none, none], [], st S hs, 0, 0))
  refine ⟨fun hc => hX _ ?_, fun hc => hX _ ?_⟩
  · clear hP hX hk P' X cal
    rw [if_neg hc] at hr
    refine Wp.stepsG 4 (fun cal X P' hk hX hP => ?_)
    show X (14, [some (.ref 76), some (.int a1), some (.int 0), some (.int 0)], [], st S hs, 0, 0)
    refine hX _ ?_
    clear hP hX hk P' X cal
    obtain ⟨q2, hq2, hr⟩ := bd_some hr
    refine (e_lp_X12_guess_14 d hs P a1 _ 0 0 S q2 hq2 ?_)
    have hr := Option.some.inj hr
    subst hr
    refine Wp.stepsG 2 (fun cal X P' hk hX hP => ?_)
    exact hP _ _ h
  · clear hP hX hk P' X cal
    rw [if_pos hc] at hr
    have hr := Option.some.inj hr
    subst hr
    refine Wp.stepsG 2 (fun cal X P' hk hX hP => ?_)
    exact hP _ _ h
def lp_X12_divisor_14 : Nat → Int32 → Int32 → Option (Int32)
  | 0, _, _ => none
  | n + 1, v3, v4 =>
    if v4 = 0 then
      some v3
    else
      gd (¬ v4 = 0) (
        lp_X12_divisor_14 n v4 (v3 - v3 / v4 * v4))
set_option maxRecDepth 20000 in
set_option maxHeartbeats 4000000 in
theorem e_lp_X12_divisor_14 (d : Nat) (hs : List Hr) (P : Option Value → Hp → Prop) (S : St) : ∀ (n : Nat) (v3 : Int32) (v4 : Int32) (q : Int32), lp_X12_divisor_14 n v3 v4 = some q → (WM mi_X12_divisor (d + 0) P 35 [none, none, none, some (.int q), none, none] [] (st S hs)) → WM mi_X12_divisor (d + 0) P 14 [none, none, none, some (.int v3), some (.int v4), none] [] (st S hs) := by
  intro n
  induction n with
  | zero =>
    intro v3 v4 q hl
    cases hl
  | succ n ih =>
    intro v3 v4 q hl ct
    rw [lp_X12_divisor_14] at hl
    refine Wp.stepsG 2 (fun cal X P' hk hX hP => ?_)
    show (v4 = 0 → X (35, [none, none, none, some (.int v3), some (.int v4), none], [], st S hs, 0, 0)) ∧ (¬ v4 = 0 → X (19, [none, none, none, some (.int v3), some (.int v4), none], [], st S hs, 0, 0))
    refine ⟨fun hc => hX _ ?_, fun hc => hX _ ?_⟩
    · clear hP hX hk P' X cal
      rw [if_pos hc] at hl
      have hl := Option.some.inj hl
      subst hl
      exact Wp.weak (leL.k (leL.k (leL.k (leL.k (leL.n (leL.k leL.z)))))) (ct)
    · clear hP hX hk P' X cal
      rw [if_neg hc] at hl
      refine Wp.stepsG 3 (fun cal X P' hk hX hP => ?_)
      show ¬ v4 = 0 ∧ X (23, [none, none, none, some (.int v3), some (.int v4), none], [.int (v3 - v3 / v4 * v4)], st S hs, 0, 0)
      obtain ⟨hg, hl⟩ := gd_some hl
      refine ⟨hg, hX _ ?_⟩
      clear hP hX hk P' X cal
      refine Wp.stepsG 6 (fun cal X P' hk hX hP => ?_)
      show X (14, [none, none, none, some (.int v4), some (.int (v3 - v3 / v4 * v4)), some (.int (v3 - v3 / v4 * v4))], [], st S hs, 0, 0)
      refine hX _ ?_
      exact Wp.weak (leL.k (leL.k (leL.k (leL.k (leL.k (leL.n leL.z)))))) (ih v4 (v3 - v3 / v4 * v4) q hl ct)
def r_X12_divisor (a1 : Int32) (a2 : Int32) : Option Int32 :=
  if 0 ≤ a1 then
    (lp_X12_divisor_14 4000 a1 a2).bind fun q1 =>
      some q1
  else
    (lp_X12_divisor_14 4000 (-a1) a2).bind fun q2 =>
      some q2
set_option maxRecDepth 20000 in
set_option maxHeartbeats 4000000 in
theorem e_X12_divisor (d : Nat) (S : St) (hs : List Hr) (a1 : Int32) (a2 : Int32) (v : Int32) (hr : r_X12_divisor a1 a2 = some v) (P : Option Value → Hp → Prop) (h : P (some (.int v)) (st S hs)) : Ev (d + 1) ix_X12_divisor 0 0 [.ref 76, .int a1, .int a2] (st S hs) P := by
  refine Ev.intro (M := mi_X12_divisor) rfl (Nat.le_of_ble_eq_true rfl) ?_
  unfold r_X12_divisor at hr
  refine Wp.stepsG 2 (fun cal X P' hk hX hP => ?_)
  show (0 ≤ a1 → X (9, [some (.ref 76), some (.int a1), some (.int a2), none, none, none], [], st S hs, 0, 0)) ∧ (¬ 0 ≤ a1 → X (4, [some (.ref 76), some (.int a1), some (.int a2), none, none, none], [], st S hs, 0, 0))
  refine ⟨fun hc => hX _ ?_, fun hc => hX _ ?_⟩
  · clear hP hX hk P' X cal
    rw [if_pos hc] at hr
    refine Wp.stepsG 4 (fun cal X P' hk hX hP => ?_)
    show X (14, [some (.ref 76), some (.int a1), some (.int a2), some (.int a1), some (.int a2), none], [], st S hs, 0, 0)
    refine hX _ ?_
    clear hP hX hk P' X cal
    obtain ⟨q1, hq1, hr⟩ := bd_some hr
    refine Wp.weak (leL.n (leL.n (leL.n (leL.k (leL.k (leL.k leL.z)))))) (e_lp_X12_divisor_14 d hs P S _ a1 a2 q1 hq1 ?_)
    have hr := Option.some.inj hr
    subst hr
    refine Wp.stepsG 2 (fun cal X P' hk hX hP => ?_)
    exact hP _ _ h
  · clear hP hX hk P' X cal
    rw [if_neg hc] at hr
    refine Wp.stepsG 6 (fun cal X P' hk hX hP => ?_)
    show X (14, [some (.ref 76), some (.int a1), some (.int a2), some (.int (-a1)), some (.int a2), none], [], st S hs, 0, 0)
    refine hX _ ?_
    clear hP hX hk P' X cal
    obtain ⟨q2, hq2, hr⟩ := bd_some hr
    refine Wp.weak (leL.n (leL.n (leL.n (leL.k (leL.k (leL.k leL.z)))))) (e_lp_X12_divisor_14 d hs P S _ (-a1) a2 q2 hq2 ?_)
    have hr := Option.some.inj hr
    subst hr
    refine Wp.stepsG 2 (fun cal X P' hk hX hP => ?_)
    exact hP _ _ h
def r_X12_lowest (a1 : Int32) (a2 : Int32) (a3 : Int32) : Option Int64 :=
  (r_X12_divisor a1 a2).bind fun q1 =>
  if a3 = 0 then
    gd (¬ q1 = 0) (
      some ((a1 / q1).toInt64))
  else
    gd (¬ q1 = 0) (
      some ((a2 / q1).toInt64))
set_option maxRecDepth 20000 in
set_option maxHeartbeats 4000000 in
theorem e_X12_lowest (d : Nat) (S : St) (hs : List Hr) (a1 : Int32) (a2 : Int32) (a3 : Int32) (v : Int64) (hr : r_X12_lowest a1 a2 a3 = some v) (P : Option Value → Hp → Prop) (h : P (some (.long v)) (st S hs)) : Ev (d + 2) ix_X12_lowest 0 0 [.ref 76, .int a1, .int a2, .int a3] (st S hs) P := by
  refine Ev.intro (M := mi_X12_lowest) rfl (Nat.le_of_ble_eq_true rfl) ?_
  unfold r_X12_lowest at hr
  refine Wp.stepsG 4 (fun cal X P' hk hX hP => ?_)
  show kcall cal ix_X12_divisor [.ref 76, .int a1, .int a2] (st S hs) [] 0 0 (0, 0) (fun v σ' c' m' => X (6, [some (.ref 76), some (.int a1), some (.int a2), some (.int a3), none], v.toList ++ [], σ', c', m'))
  obtain ⟨q1, hq1, hr⟩ := bd_some hr
  refine kcall0 rfl (hk _ _ _ _ _ _ (e_X12_divisor (d + 0) S hs a1 a2 q1 hq1 _ ?_))
  show X (6, [some (.ref 76), some (.int a1), some (.int a2), some (.int a3), none], [.int q1], st S hs, 0, 0)
  refine hX _ ?_
  clear hP hX hk P' X cal
  refine Wp.stepsG 3 (fun cal X P' hk hX hP => ?_)
  show (¬ a3 = 0 → X (20, [some (.ref 76), some (.int a1), some (.int a2), some (.int a3), some (.int q1)], [], st S hs, 0, 0)) ∧ (a3 = 0 → X (12, [some (.ref 76), some (.int a1), some (.int a2), some (.int a3), some (.int q1)], [], st S hs, 0, 0))
  refine ⟨fun hc => hX _ ?_, fun hc => hX _ ?_⟩
  · clear hP hX hk P' X cal
    rw [if_neg hc] at hr
    refine Wp.stepsG 3 (fun cal X P' hk hX hP => ?_)
    show ¬ q1 = 0 ∧ X (24, [some (.ref 76), some (.int a1), some (.int a2), some (.int a3), some (.int q1)], [.int (a2 / q1)], st S hs, 0, 0)
    obtain ⟨hg, hr⟩ := gd_some hr
    refine ⟨hg, hX _ ?_⟩
    clear hP hX hk P' X cal
    have hr := Option.some.inj hr
    subst hr
    refine Wp.stepsG 2 (fun cal X P' hk hX hP => ?_)
    exact hP _ _ h
  · clear hP hX hk P' X cal
    rw [if_pos hc] at hr
    refine Wp.stepsG 3 (fun cal X P' hk hX hP => ?_)
    show ¬ q1 = 0 ∧ X (16, [some (.ref 76), some (.int a1), some (.int a2), some (.int a3), some (.int q1)], [.int (a1 / q1)], st S hs, 0, 0)
    obtain ⟨hg, hr⟩ := gd_some hr
    refine ⟨hg, hX _ ?_⟩
    clear hP hX hk P' X cal
    have hr := Option.some.inj hr
    subst hr
    refine Wp.stepsG 3 (fun cal X P' hk hX hP => ?_)
    exact hP _ _ h
def lp_X12_odds_27 (f1 : Int32) (f2 : Int32) : Nat → Int32 → Int32 → St → Option (Int32 × St)
  | 0, _, _, _ => none
  | n + 1, v3, v4, S =>
    if ((1 : Int32) <<< ((S.1 76 1) &&& 31)) ≤ v4 then
      some (v3, S)
    else
      (r_X12_laughter S f1 v4).bind fun q1 =>
      if q1.1 ≤ 0 then
        lp_X12_odds_27 f1 f2 n (v3 + 0) (v4 + 1) q1.2
      else
        lp_X12_odds_27 f1 f2 n (v3 + 1) (v4 + 1) q1.2
set_option maxRecDepth 20000 in
set_option maxHeartbeats 4000000 in
theorem e_lp_X12_odds_27 (d : Nat) (hs : List Hr) (P : Option Value → Hp → Prop) (f1 : Int32) (f2 : Int32) : ∀ (n : Nat) (v3 : Int32) (v4 : Int32) (S : St) (q : Int32 × St), lp_X12_odds_27 f1 f2 n v3 v4 S = some q → (WM mi_X12_odds (d + 6) P 62 [some (.ref 76), some (.int f1), some (.int f2), some (.int q.1), none] [] (st q.2 hs)) → WM mi_X12_odds (d + 6) P 27 [some (.ref 76), some (.int f1), some (.int f2), some (.int v3), some (.int v4)] [] (st S hs) := by
  intro n
  induction n with
  | zero =>
    intro v3 v4 S q hl
    cases hl
  | succ n ih =>
    intro v3 v4 S q hl ct
    rw [lp_X12_odds_27] at hl
    refine Wp.stepsG 6 (fun cal X P' hk hX hP => ?_)
    show (((1 : Int32) <<< ((S.1 76 1) &&& 31)) ≤ v4 → X (62, [some (.ref 76), some (.int f1), some (.int f2), some (.int v3), some (.int v4)], [], st S hs, 0, 0)) ∧ (¬ ((1 : Int32) <<< ((S.1 76 1) &&& 31)) ≤ v4 → X (38, [some (.ref 76), some (.int f1), some (.int f2), some (.int v3), some (.int v4)], [], st S hs, 0, 0))
    refine ⟨fun hc => hX _ ?_, fun hc => hX _ ?_⟩
    · clear hP hX hk P' X cal
      rw [if_pos hc] at hl
      have hl := Option.some.inj hl
      subst hl
      exact Wp.weak (leL.k (leL.k (leL.k (leL.k (leL.n leL.z))))) (ct)
    · clear hP hX hk P' X cal
      rw [if_neg hc] at hl
      refine Wp.stepsG 5 (fun cal X P' hk hX hP => ?_)
      show kcall cal ix_X12_laughter [.ref 76, .int f1, .int v4] (st S hs) [.int v3] 0 0 (0, 0) (fun v σ' c' m' => X (46, [some (.ref 76), some (.int f1), some (.int f2), some (.int v3), some (.int v4)], v.toList ++ [.int v3], σ', c', m'))
      obtain ⟨q1, hq1, hl⟩ := bd_some hl
      refine kcall0 rfl (hk _ _ _ _ _ _ (e_X12_laughter (d + 0) S hs f1 v4 q1 hq1 _ ?_))
      show X (46, [some (.ref 76), some (.int f1), some (.int f2), some (.int v3), some (.int v4)], [.int q1.1, .int v3], st q1.2 hs, 0, 0)
      refine hX _ ?_
      clear hP hX hk P' X cal
      refine Wp.stepsG 1 (fun cal X P' hk hX hP => ?_)
      show (q1.1 ≤ 0 → X (53, [some (.ref 76), some (.int f1), some (.int f2), some (.int v3), some (.int v4)], [.int v3], st q1.2 hs, 0, 0)) ∧ (¬ q1.1 ≤ 0 → X (49, [some (.ref 76), some (.int f1), some (.int f2), some (.int v3), some (.int v4)], [.int v3], st q1.2 hs, 0, 0))
      refine ⟨fun hc => hX _ ?_, fun hc => hX _ ?_⟩
      · clear hP hX hk P' X cal
        rw [if_pos hc] at hl
        refine Wp.stepsG 5 (fun cal X P' hk hX hP => ?_)
        show X (27, [some (.ref 76), some (.int f1), some (.int f2), some (.int (v3 + 0)), some (.int (v4 + 1))], [], st q1.2 hs, 0, 0)
        refine hX _ ?_
        exact (ih (v3 + 0) (v4 + 1) q1.2 q hl ct)
      · clear hP hX hk P' X cal
        rw [if_neg hc] at hl
        refine Wp.stepsG 6 (fun cal X P' hk hX hP => ?_)
        show X (27, [some (.ref 76), some (.int f1), some (.int f2), some (.int (v3 + 1)), some (.int (v4 + 1))], [], st q1.2 hs, 0, 0)
        refine hX _ ?_
        exact (ih (v3 + 1) (v4 + 1) q1.2 q hl ct)
def r_X12_odds (S : St) (a1 : Int32) (a2 : Int32) : Option (Int64 × St) :=
  if (r_X12_isStory S a1) = 0 then
    some ((-9223372036854775808), S)
  else
    if (r_X12_in a2 0 1) = 0 then
      some ((-9223372036854775808), S)
    else
      (lp_X12_odds_27 a1 a2 4000 0 0 S).bind fun q2 =>
        (r_X12_lowest q2.1 ((1 : Int32) <<< ((q2.2.1 76 1) &&& 31)) a2).bind fun q3 =>
        some (q3, q2.2)
set_option maxRecDepth 20000 in
set_option maxHeartbeats 4000000 in
theorem e_X12_odds (d : Nat) (S : St) (hs : List Hr) (a1 : Int32) (a2 : Int32) (v : Int64 × St) (hr : r_X12_odds S a1 a2 = some v) (P : Option Value → Hp → Prop) (h : P (some (.long v.1)) (st v.2 hs)) : Ev (d + 7) ix_X12_odds 0 0 [.ref 76, .int a1, .int a2] (st S hs) P := by
  refine Ev.intro (M := mi_X12_odds) rfl (Nat.le_of_ble_eq_true rfl) ?_
  unfold r_X12_odds at hr
  refine Wp.stepsG 3 (fun cal X P' hk hX hP => ?_)
  show kcall cal ix_X12_isStory [.ref 76, .int a1] (st S hs) [] 0 0 (0, 0) (fun v σ' c' m' => X (5, [some (.ref 76), some (.int a1), some (.int a2), none, none], v.toList ++ [], σ', c', m'))
  refine kcall0 rfl (hk _ _ _ _ _ _ (e_X12_isStory (d + 4) S hs a1 _ ?_))
  show X (5, [some (.ref 76), some (.int a1), some (.int a2), none, none], [.int (r_X12_isStory S a1)], st S hs, 0, 0)
  refine hX _ ?_
  clear hP hX hk P' X cal
  refine Wp.stepsG 1 (fun cal X P' hk hX hP => ?_)
  show ((r_X12_isStory S a1) = 0 → X (18, [some (.ref 76), some (.int a1), some (.int a2), none, none], [], st S hs, 0, 0)) ∧ (¬ (r_X12_isStory S a1) = 0 → X (8, [some (.ref 76), some (.int a1), some (.int a2), none, none], [], st S hs, 0, 0))
  refine ⟨fun hc => hX _ ?_, fun hc => hX _ ?_⟩
  · clear hP hX hk P' X cal
    rw [if_pos hc] at hr
    have hr := Option.some.inj hr
    subst hr
    refine Wp.stepsG 2 (fun cal X P' hk hX hP => ?_)
    exact hP _ _ h
  · clear hP hX hk P' X cal
    rw [if_neg hc] at hr
    refine Wp.stepsG 5 (fun cal X P' hk hX hP => ?_)
    show kcall cal ix_X12_in [.ref 76, .int a2, .int 0, .int 1] (st S hs) [] 0 0 (0, 0) (fun v σ' c' m' => X (15, [some (.ref 76), some (.int a1), some (.int a2), none, none], v.toList ++ [], σ', c', m'))
    refine kcall0 rfl (hk _ _ _ _ _ _ (e_X12_in (d + 5) S hs a2 0 1 _ ?_))
    show X (15, [some (.ref 76), some (.int a1), some (.int a2), none, none], [.int (r_X12_in a2 0 1)], st S hs, 0, 0)
    refine hX _ ?_
    clear hP hX hk P' X cal
    refine Wp.stepsG 1 (fun cal X P' hk hX hP => ?_)
    show (¬ (r_X12_in a2 0 1) = 0 → X (22, [some (.ref 76), some (.int a1), some (.int a2), none, none], [], st S hs, 0, 0)) ∧ ((r_X12_in a2 0 1) = 0 → X (18, [some (.ref 76), some (.int a1), some (.int a2), none, none], [], st S hs, 0, 0))
    refine ⟨fun hc => hX _ ?_, fun hc => hX _ ?_⟩
    · clear hP hX hk P' X cal
      rw [if_neg hc] at hr
      refine Wp.stepsG 4 (fun cal X P' hk hX hP => ?_)
      show X (27, [some (.ref 76), some (.int a1), some (.int a2), some (.int 0), some (.int 0)], [], st S hs, 0, 0)
      refine hX _ ?_
      clear hP hX hk P' X cal
      obtain ⟨q2, hq2, hr⟩ := bd_some hr
      refine (e_lp_X12_odds_27 d hs P a1 a2 _ 0 0 S q2 hq2 ?_)
      refine Wp.stepsG 8 (fun cal X P' hk hX hP => ?_)
      show kcall cal ix_X12_lowest [.ref 76, .int q2.1, .int ((1 : Int32) <<< ((q2.2.1 76 1) &&& 31)), .int a2] (st q2.2 hs) [] 0 0 (0, 0) (fun v σ' c' m' => X (74, [some (.ref 76), some (.int a1), some (.int a2), some (.int q2.1), none], v.toList ++ [], σ', c', m'))
      obtain ⟨q3, hq3, hr⟩ := bd_some hr
      refine kcall0 rfl (hk _ _ _ _ _ _ (e_X12_lowest (d + 4) q2.2 hs q2.1 ((1 : Int32) <<< ((q2.2.1 76 1) &&& 31)) a2 q3 hq3 _ ?_))
      show X (74, [some (.ref 76), some (.int a1), some (.int a2), some (.int q2.1), none], [.long q3], st q2.2 hs, 0, 0)
      refine hX _ ?_
      clear hP hX hk P' X cal
      have hr := Option.some.inj hr
      subst hr
      refine Wp.stepsG 1 (fun cal X P' hk hX hP => ?_)
      exact hP _ _ h
    · clear hP hX hk P' X cal
      rw [if_pos hc] at hr
      have hr := Option.some.inj hr
      subst hr
      refine Wp.stepsG 2 (fun cal X P' hk hX hP => ?_)
      exact hP _ _ h
def lp_X12_mean_34 (f1 : Int32) (f2 : Int32) : Nat → Int32 → Int32 → St → Option (Int32 × St)
  | 0, _, _, _ => none
  | n + 1, v3, v4, S =>
    if (S.1 76 0) ≤ v4 then
      some (v3, S)
    else
      (r_X12_laughter S v4 f1).bind fun q1 =>
      lp_X12_mean_34 f1 f2 n (v3 + q1.1) (v4 + 1) q1.2
set_option maxRecDepth 20000 in
set_option maxHeartbeats 4000000 in
theorem e_lp_X12_mean_34 (d : Nat) (hs : List Hr) (P : Option Value → Hp → Prop) (f1 : Int32) (f2 : Int32) : ∀ (n : Nat) (v3 : Int32) (v4 : Int32) (S : St) (q : Int32 × St), lp_X12_mean_34 f1 f2 n v3 v4 S = some q → (WM mi_X12_mean (d + 6) P 59 [some (.ref 76), some (.int f1), some (.int f2), some (.int q.1), none] [] (st q.2 hs)) → WM mi_X12_mean (d + 6) P 34 [some (.ref 76), some (.int f1), some (.int f2), some (.int v3), some (.int v4)] [] (st S hs) := by
  intro n
  induction n with
  | zero =>
    intro v3 v4 S q hl
    cases hl
  | succ n ih =>
    intro v3 v4 S q hl ct
    rw [lp_X12_mean_34] at hl
    refine Wp.stepsG 4 (fun cal X P' hk hX hP => ?_)
    show ((S.1 76 0) ≤ v4 → X (59, [some (.ref 76), some (.int f1), some (.int f2), some (.int v3), some (.int v4)], [], st S hs, 0, 0)) ∧ (¬ (S.1 76 0) ≤ v4 → X (43, [some (.ref 76), some (.int f1), some (.int f2), some (.int v3), some (.int v4)], [], st S hs, 0, 0))
    refine ⟨fun hc => hX _ ?_, fun hc => hX _ ?_⟩
    · clear hP hX hk P' X cal
      rw [if_pos hc] at hl
      have hl := Option.some.inj hl
      subst hl
      exact Wp.weak (leL.k (leL.k (leL.k (leL.k (leL.n leL.z))))) (ct)
    · clear hP hX hk P' X cal
      rw [if_neg hc] at hl
      refine Wp.stepsG 5 (fun cal X P' hk hX hP => ?_)
      show kcall cal ix_X12_laughter [.ref 76, .int v4, .int f1] (st S hs) [.int v3] 0 0 (0, 0) (fun v σ' c' m' => X (51, [some (.ref 76), some (.int f1), some (.int f2), some (.int v3), some (.int v4)], v.toList ++ [.int v3], σ', c', m'))
      obtain ⟨q1, hq1, hl⟩ := bd_some hl
      refine kcall0 rfl (hk _ _ _ _ _ _ (e_X12_laughter (d + 0) S hs v4 f1 q1 hq1 _ ?_))
      show X (51, [some (.ref 76), some (.int f1), some (.int f2), some (.int v3), some (.int v4)], [.int q1.1, .int v3], st q1.2 hs, 0, 0)
      refine hX _ ?_
      clear hP hX hk P' X cal
      refine Wp.stepsG 4 (fun cal X P' hk hX hP => ?_)
      show X (34, [some (.ref 76), some (.int f1), some (.int f2), some (.int (v3 + q1.1)), some (.int (v4 + 1))], [], st q1.2 hs, 0, 0)
      refine hX _ ?_
      exact (ih (v3 + q1.1) (v4 + 1) q1.2 q hl ct)
def r_X12_mean (S : St) (a1 : Int32) (a2 : Int32) : Option (Int64 × St) :=
  if (r_X12_isTable S a1) = 0 then
    some ((-9223372036854775808), S)
  else
    if (r_X12_in a2 0 1) = 0 then
      some ((-9223372036854775808), S)
    else
      if (S.1 76 0) = 0 then
        some ((-9223372036854775808), S)
      else
        (lp_X12_mean_34 a1 a2 4000 0 0 S).bind fun q2 =>
          (r_X12_lowest q2.1 (q2.2.1 76 0) a2).bind fun q3 =>
          some (q3, q2.2)
set_option maxRecDepth 20000 in
set_option maxHeartbeats 4000000 in
theorem e_X12_mean (d : Nat) (S : St) (hs : List Hr) (a1 : Int32) (a2 : Int32) (v : Int64 × St) (hr : r_X12_mean S a1 a2 = some v) (P : Option Value → Hp → Prop) (h : P (some (.long v.1)) (st v.2 hs)) : Ev (d + 7) ix_X12_mean 0 0 [.ref 76, .int a1, .int a2] (st S hs) P := by
  refine Ev.intro (M := mi_X12_mean) rfl (Nat.le_of_ble_eq_true rfl) ?_
  unfold r_X12_mean at hr
  refine Wp.stepsG 3 (fun cal X P' hk hX hP => ?_)
  show kcall cal ix_X12_isTable [.ref 76, .int a1] (st S hs) [] 0 0 (0, 0) (fun v σ' c' m' => X (5, [some (.ref 76), some (.int a1), some (.int a2), none, none], v.toList ++ [], σ', c', m'))
  refine kcall0 rfl (hk _ _ _ _ _ _ (e_X12_isTable (d + 4) S hs a1 _ ?_))
  show X (5, [some (.ref 76), some (.int a1), some (.int a2), none, none], [.int (r_X12_isTable S a1)], st S hs, 0, 0)
  refine hX _ ?_
  clear hP hX hk P' X cal
  refine Wp.stepsG 1 (fun cal X P' hk hX hP => ?_)
  show ((r_X12_isTable S a1) = 0 → X (25, [some (.ref 76), some (.int a1), some (.int a2), none, none], [], st S hs, 0, 0)) ∧ (¬ (r_X12_isTable S a1) = 0 → X (8, [some (.ref 76), some (.int a1), some (.int a2), none, none], [], st S hs, 0, 0))
  refine ⟨fun hc => hX _ ?_, fun hc => hX _ ?_⟩
  · clear hP hX hk P' X cal
    rw [if_pos hc] at hr
    have hr := Option.some.inj hr
    subst hr
    refine Wp.stepsG 2 (fun cal X P' hk hX hP => ?_)
    exact hP _ _ h
  · clear hP hX hk P' X cal
    rw [if_neg hc] at hr
    refine Wp.stepsG 5 (fun cal X P' hk hX hP => ?_)
    show kcall cal ix_X12_in [.ref 76, .int a2, .int 0, .int 1] (st S hs) [] 0 0 (0, 0) (fun v σ' c' m' => X (15, [some (.ref 76), some (.int a1), some (.int a2), none, none], v.toList ++ [], σ', c', m'))
    refine kcall0 rfl (hk _ _ _ _ _ _ (e_X12_in (d + 5) S hs a2 0 1 _ ?_))
    show X (15, [some (.ref 76), some (.int a1), some (.int a2), none, none], [.int (r_X12_in a2 0 1)], st S hs, 0, 0)
    refine hX _ ?_
    clear hP hX hk P' X cal
    refine Wp.stepsG 1 (fun cal X P' hk hX hP => ?_)
    show ((r_X12_in a2 0 1) = 0 → X (25, [some (.ref 76), some (.int a1), some (.int a2), none, none], [], st S hs, 0, 0)) ∧ (¬ (r_X12_in a2 0 1) = 0 → X (18, [some (.ref 76), some (.int a1), some (.int a2), none, none], [], st S hs, 0, 0))
    refine ⟨fun hc => hX _ ?_, fun hc => hX _ ?_⟩
    · clear hP hX hk P' X cal
      rw [if_pos hc] at hr
      have hr := Option.some.inj hr
      subst hr
      refine Wp.stepsG 2 (fun cal X P' hk hX hP => ?_)
      exact hP _ _ h
    · clear hP hX hk P' X cal
      rw [if_neg hc] at hr
      refine Wp.stepsG 3 (fun cal X P' hk hX hP => ?_)
      show (¬ (S.1 76 0) = 0 → X (29, [some (.ref 76), some (.int a1), some (.int a2), none, none], [], st S hs, 0, 0)) ∧ ((S.1 76 0) = 0 → X (25, [some (.ref 76), some (.int a1), some (.int a2), none, none], [], st S hs, 0, 0))
      refine ⟨fun hc => hX _ ?_, fun hc => hX _ ?_⟩
      · clear hP hX hk P' X cal
        rw [if_neg hc] at hr
        refine Wp.stepsG 4 (fun cal X P' hk hX hP => ?_)
        show X (34, [some (.ref 76), some (.int a1), some (.int a2), some (.int 0), some (.int 0)], [], st S hs, 0, 0)
        refine hX _ ?_
        clear hP hX hk P' X cal
        obtain ⟨q2, hq2, hr⟩ := bd_some hr
        refine (e_lp_X12_mean_34 d hs P a1 a2 _ 0 0 S q2 hq2 ?_)
        refine Wp.stepsG 6 (fun cal X P' hk hX hP => ?_)
        show kcall cal ix_X12_lowest [.ref 76, .int q2.1, .int (q2.2.1 76 0), .int a2] (st q2.2 hs) [] 0 0 (0, 0) (fun v σ' c' m' => X (69, [some (.ref 76), some (.int a1), some (.int a2), some (.int q2.1), none], v.toList ++ [], σ', c', m'))
        obtain ⟨q3, hq3, hr⟩ := bd_some hr
        refine kcall0 rfl (hk _ _ _ _ _ _ (e_X12_lowest (d + 4) q2.2 hs q2.1 (q2.2.1 76 0) a2 q3 hq3 _ ?_))
        show X (69, [some (.ref 76), some (.int a1), some (.int a2), some (.int q2.1), none], [.long q3], st q2.2 hs, 0, 0)
        refine hX _ ?_
        clear hP hX hk P' X cal
        have hr := Option.some.inj hr
        subst hr
        refine Wp.stepsG 1 (fun cal X P' hk hX hP => ?_)
        exact hP _ _ h
      · clear hP hX hk P' X cal
        rw [if_pos hc] at hr
        have hr := Option.some.inj hr
        subst hr
        refine Wp.stepsG 2 (fun cal X P' hk hX hP => ?_)
        exact hP _ _ h
def r_X12_book (S : St) (a1 : Int32) : Option (Int32 × St) :=
  if a1 = (-1) then
    some (0, sI S 76 40 0)
  else
    if (r_X12_isStory S a1) = 0 then
      some ((-1), S)
    else
      if (S.1 76 40) = 10 then
        some ((-4), S)
      else
        gd (¬ ((S.1 76 40) < 0 ∨ 10 ≤ (S.1 76 40).toNatClampNeg)) (
          some ((S.1 76 40) + 1, sI (sA S 103 (upd (S.1 103) (S.1 76 40).toNatClampNeg a1)) 76 40 ((S.1 76 40) + 1)))
set_option maxRecDepth 20000 in
set_option maxHeartbeats 4000000 in
theorem e_X12_book (d : Nat) (S : St) (hs : List Hr) (a1 : Int32) (v : Int32 × St) (hr : r_X12_book S a1 = some v) (P : Option Value → Hp → Prop) (h : P (some (.int v.1)) (st v.2 hs)) : Ev (d + 3) ix_X12_book 0 0 [.ref 76, .int a1] (st S hs) P := by
  refine Ev.intro (M := mi_X12_book) rfl (Nat.le_of_ble_eq_true rfl) ?_
  unfold r_X12_book at hr
  refine Wp.stepsG 3 (fun cal X P' hk hX hP => ?_)
  show (¬ a1 = (-1) → X (12, [some (.ref 76), some (.int a1)], [], st S hs, 0, 0)) ∧ (a1 = (-1) → X (5, [some (.ref 76), some (.int a1)], [], st S hs, 0, 0))
  refine ⟨fun hc => hX _ ?_, fun hc => hX _ ?_⟩
  · clear hP hX hk P' X cal
    rw [if_neg hc] at hr
    refine Wp.stepsG 3 (fun cal X P' hk hX hP => ?_)
    show kcall cal ix_X12_isStory [.ref 76, .int a1] (st S hs) [] 0 0 (0, 0) (fun v σ' c' m' => X (17, [some (.ref 76), some (.int a1)], v.toList ++ [], σ', c', m'))
    refine kcall0 rfl (hk _ _ _ _ _ _ (e_X12_isStory (d + 0) S hs a1 _ ?_))
    show X (17, [some (.ref 76), some (.int a1)], [.int (r_X12_isStory S a1)], st S hs, 0, 0)
    refine hX _ ?_
    clear hP hX hk P' X cal
    refine Wp.stepsG 1 (fun cal X P' hk hX hP => ?_)
    show (¬ (r_X12_isStory S a1) = 0 → X (22, [some (.ref 76), some (.int a1)], [], st S hs, 0, 0)) ∧ ((r_X12_isStory S a1) = 0 → X (20, [some (.ref 76), some (.int a1)], [], st S hs, 0, 0))
    refine ⟨fun hc => hX _ ?_, fun hc => hX _ ?_⟩
    · clear hP hX hk P' X cal
      rw [if_neg hc] at hr
      refine Wp.stepsG 4 (fun cal X P' hk hX hP => ?_)
      show (¬ (S.1 76 40) = 10 → X (34, [some (.ref 76), some (.int a1)], [], st S hs, 0, 0)) ∧ ((S.1 76 40) = 10 → X (31, [some (.ref 76), some (.int a1)], [], st S hs, 0, 0))
      refine ⟨fun hc => hX _ ?_, fun hc => hX _ ?_⟩
      · clear hP hX hk P' X cal
        rw [if_neg hc] at hr
        refine Wp.stepsG 6 (fun cal X P' hk hX hP => ?_)
        show vp_in (S.1 76 40) 10 ∧ X (44, [some (.ref 76), some (.int a1)], [], st (sA S 103 (upd (S.1 103) (S.1 76 40).toNatClampNeg a1)) hs, 0, 0)
        obtain ⟨hg, hr⟩ := gd_some hr
        refine ⟨hg, hX _ ?_⟩
        clear hP hX hk P' X cal
        have hr := Option.some.inj hr
        subst hr
        refine Wp.stepsG 9 (fun cal X P' hk hX hP => ?_)
        exact hP _ _ h
      · clear hP hX hk P' X cal
        rw [if_pos hc] at hr
        have hr := Option.some.inj hr
        subst hr
        refine Wp.stepsG 2 (fun cal X P' hk hX hP => ?_)
        exact hP _ _ h
    · clear hP hX hk P' X cal
      rw [if_pos hc] at hr
      have hr := Option.some.inj hr
      subst hr
      refine Wp.stepsG 2 (fun cal X P' hk hX hP => ?_)
      exact hP _ _ h
  · clear hP hX hk P' X cal
    rw [if_pos hc] at hr
    have hr := Option.some.inj hr
    subst hr
    refine Wp.stepsG 5 (fun cal X P' hk hX hP => ?_)
    exact hP _ _ h
def lp_X12_looked_9 : Nat → Int32 → Int32 → St → Option (Int32 × St)
  | 0, _, _, _ => none
  | n + 1, v1, v2, S =>
    if (S.1 76 40) ≤ v2 then
      some (v1, S)
    else
      if 0 ≤ v1 then
        some (v1, S)
      else
        gd (¬ (v2 < 0 ∨ 10 ≤ v2.toNatClampNeg)) (
          (r_X12_tells S ((S.1 103) v2.toNatClampNeg) (((1 : Int32) <<< ((S.1 76 1) &&& 31)) - 1)).bind fun q2 =>
          if q2.1 ≤ 0 then
            lp_X12_looked_9 n v2 (v2 + 1) (sI q2.2 76 2 ((q2.2.1 76 2) + 1))
          else
            lp_X12_looked_9 n (-5) (v2 + 1) (sI q2.2 76 2 ((q2.2.1 76 2) + 1)))
set_option maxRecDepth 20000 in
set_option maxHeartbeats 4000000 in
theorem e_lp_X12_looked_9 (d : Nat) (hs : List Hr) (P : Option Value → Hp → Prop) : ∀ (n : Nat) (v1 : Int32) (v2 : Int32) (S : St) (q : Int32 × St), lp_X12_looked_9 n v1 v2 S = some q → (WM mi_X12_looked (d + 7) P 65 [some (.ref 76), some (.int q.1), none] [] (st q.2 hs)) → WM mi_X12_looked (d + 7) P 9 [some (.ref 76), some (.int v1), some (.int v2)] [] (st S hs) := by
  intro n
  induction n with
  | zero =>
    intro v1 v2 S q hl
    cases hl
  | succ n ih =>
    intro v1 v2 S q hl ct
    rw [lp_X12_looked_9] at hl
    refine Wp.stepsG 4 (fun cal X P' hk hX hP => ?_)
    show ((S.1 76 40) ≤ v2 → X (65, [some (.ref 76), some (.int v1), some (.int v2)], [], st S hs, 0, 0)) ∧ (¬ (S.1 76 40) ≤ v2 → X (17, [some (.ref 76), some (.int v1), some (.int v2)], [], st S hs, 0, 0))
    refine ⟨fun hc => hX _ ?_, fun hc => hX _ ?_⟩
    · clear hP hX hk P' X cal
      rw [if_pos hc] at hl
      have hl := Option.some.inj hl
      subst hl
      exact Wp.weak (leL.k (leL.k (leL.n leL.z))) (ct)
    · clear hP hX hk P' X cal
      rw [if_neg hc] at hl
      refine Wp.stepsG 2 (fun cal X P' hk hX hP => ?_)
      show (0 ≤ v1 → X (65, [some (.ref 76), some (.int v1), some (.int v2)], [], st S hs, 0, 0)) ∧ (¬ 0 ≤ v1 → X (21, [some (.ref 76), some (.int v1), some (.int v2)], [], st S hs, 0, 0))
      refine ⟨fun hc => hX _ ?_, fun hc => hX _ ?_⟩
      · clear hP hX hk P' X cal
        rw [if_pos hc] at hl
        have hl := Option.some.inj hl
        subst hl
        exact Wp.weak (leL.k (leL.k (leL.n leL.z))) (ct)
      · clear hP hX hk P' X cal
        rw [if_neg hc] at hl
        refine Wp.stepsG 5 (fun cal X P' hk hX hP => ?_)
        show vp_in v2 10 ∧ X (28, [some (.ref 76), some (.int v1), some (.int v2)], [.int ((S.1 103) v2.toNatClampNeg), .ref 76], st S hs, 0, 0)
        obtain ⟨hg, hl⟩ := gd_some hl
        refine ⟨hg, hX _ ?_⟩
        clear hP hX hk P' X cal
        refine Wp.stepsG 7 (fun cal X P' hk hX hP => ?_)
        show kcall cal ix_X12_tells [.ref 76, .int ((S.1 103) v2.toNatClampNeg), .int (((1 : Int32) <<< ((S.1 76 1) &&& 31)) - 1)] (st S hs) [] 0 0 (0, 0) (fun v σ' c' m' => X (39, [some (.ref 76), some (.int v1), some (.int v2)], v.toList ++ [], σ', c', m'))
        obtain ⟨q2, hq2, hl⟩ := bd_some hl
        refine kcall0 rfl (hk _ _ _ _ _ _ (e_X12_tells (d + 0) S hs ((S.1 103) v2.toNatClampNeg) (((1 : Int32) <<< ((S.1 76 1) &&& 31)) - 1) q2 hq2 _ ?_))
        show X (39, [some (.ref 76), some (.int v1), some (.int v2)], [.int q2.1], st q2.2 hs, 0, 0)
        refine hX _ ?_
        clear hP hX hk P' X cal
        refine Wp.stepsG 1 (fun cal X P' hk hX hP => ?_)
        show (q2.1 ≤ 0 → X (47, [some (.ref 76), some (.int v1), some (.int v2)], [], st q2.2 hs, 0, 0)) ∧ (¬ q2.1 ≤ 0 → X (42, [some (.ref 76), some (.int v1), some (.int v2)], [], st q2.2 hs, 0, 0))
        refine ⟨fun hc => hX _ ?_, fun hc => hX _ ?_⟩
        · clear hP hX hk P' X cal
          rw [if_pos hc] at hl
          refine Wp.stepsG 10 (fun cal X P' hk hX hP => ?_)
          show X (9, [some (.ref 76), some (.int v2), some (.int (v2 + 1))], [], st (sI q2.2 76 2 ((q2.2.1 76 2) + 1)) hs, 0, 0)
          refine hX _ ?_
          exact (ih v2 (v2 + 1) (sI q2.2 76 2 ((q2.2.1 76 2) + 1)) q hl ct)
        · clear hP hX hk P' X cal
          rw [if_neg hc] at hl
          refine Wp.stepsG 11 (fun cal X P' hk hX hP => ?_)
          show X (9, [some (.ref 76), some (.int (-5)), some (.int (v2 + 1))], [], st (sI q2.2 76 2 ((q2.2.1 76 2) + 1)) hs, 0, 0)
          refine hX _ ?_
          exact (ih (-5) (v2 + 1) (sI q2.2 76 2 ((q2.2.1 76 2) + 1)) q hl ct)
def r_X12_looked (S : St) : Option (Int32 × St) :=
  (r_X12_save S).bind fun q1 =>
  (lp_X12_looked_9 4000 (-5) 0 q1.2).bind fun q3 =>
    (r_X12_putBack q3.2).bind fun q4 =>
    some (q3.1, q4.2)
set_option maxRecDepth 20000 in
set_option maxHeartbeats 4000000 in
theorem e_X12_looked (d : Nat) (S : St) (hs : List Hr) (v : Int32 × St) (hr : r_X12_looked S = some v) (P : Option Value → Hp → Prop) (h : P (some (.int v.1)) (st v.2 hs)) : Ev (d + 8) ix_X12_looked 0 0 [.ref 76] (st S hs) P := by
  refine Ev.intro (M := mi_X12_looked) rfl (Nat.le_of_ble_eq_true rfl) ?_
  unfold r_X12_looked at hr
  refine Wp.stepsG 2 (fun cal X P' hk hX hP => ?_)
  show kcall cal ix_X12_save [.ref 76] (st S hs) [] 0 0 (0, 0) (fun v σ' c' m' => X (4, [some (.ref 76), none, none], v.toList ++ [], σ', c', m'))
  obtain ⟨q1, hq1, hr⟩ := bd_some hr
  refine kcall0 rfl (hk _ _ _ _ _ _ (e_X12_save (d + 6) S hs q1 hq1 _ ?_))
  show X (4, [some (.ref 76), none, none], [], st q1.2 hs, 0, 0)
  refine hX _ ?_
  clear hP hX hk P' X cal
  refine Wp.stepsG 4 (fun cal X P' hk hX hP => ?_)
  show X (9, [some (.ref 76), some (.int (-5)), some (.int 0)], [], st q1.2 hs, 0, 0)
  refine hX _ ?_
  clear hP hX hk P' X cal
  obtain ⟨q3, hq3, hr⟩ := bd_some hr
  refine (e_lp_X12_looked_9 d hs P _ (-5) 0 q1.2 q3 hq3 ?_)
  refine Wp.stepsG 2 (fun cal X P' hk hX hP => ?_)
  show kcall cal ix_X12_putBack [.ref 76] (st q3.2 hs) [] 0 0 (0, 0) (fun v σ' c' m' => X (69, [some (.ref 76), some (.int q3.1), none], v.toList ++ [], σ', c', m'))
  obtain ⟨q4, hq4, hr⟩ := bd_some hr
  refine kcall0 rfl (hk _ _ _ _ _ _ (e_X12_putBack (d + 6) q3.2 hs q4 hq4 _ ?_))
  show X (69, [some (.ref 76), some (.int q3.1), none], [], st q4.2 hs, 0, 0)
  refine hX _ ?_
  clear hP hX hk P' X cal
  have hr := Option.some.inj hr
  subst hr
  refine Wp.stepsG 2 (fun cal X P' hk hX hP => ?_)
  exact hP _ _ h
