set_option maxRecDepth 20000 in
set_option maxHeartbeats 4000000 in
theorem e_X11_guess (d : Nat) (S : St) (hs : List Hr) (a1 : Int32) (v : Int32 × St) (hr : r_X11_guess S hs a1 = some v) (P : Option Value → Hp → Prop) (h : P (some (.int v.1)) (st v.2 hs)) : Ev (d + 7) ix_X11_guess 0 0 [.ref 7, .int a1] (st S hs) P := by
  refine Ev.intro (M := mi_X11_guess) rfl (Nat.le_of_ble_eq_true rfl) ?_
  unfold r_X11_guess at hr
  refine Wp.stepsG 3 (fun cal X P' hk hX hP => ?_)
  show kcall cal ix_X11_hearerAt [.ref 7, .int a1] (st S hs) [] 0 0 (0, 0) (fun v σ' c' m' => X (5, [some (.ref 7), some (.int a1), none, none, none], v.toList ++ [], σ', c', m'))
  obtain ⟨q1, hq1, hr⟩ := bd_some hr
  refine kcall0 rfl (hk _ _ _ _ _ _ (e_X11_hearerAt (d + 4) S hs a1 q1 hq1 _ ?_))
  show X (5, [some (.ref 7), some (.int a1), none, none, none], [va_rf q1], st S hs, 0, 0)
  refine hX _ ?_
  clear hP hX hk P' X cal
  rcases oH_some hr with ⟨hz, hr⟩ | ⟨b2, zb2, hz, hb2, fb2, hr⟩
  · rw [hz]
    have hr := Option.some.inj hr
    subst hr
    refine Wp.stepsG 3 (fun cal X P' hk hX hP => ?_)
    exact hP _ _ h
  · rw [hz]
    refine Wp.stepsG 5 (fun cal X P' hk hX hP => ?_)
    show X (14, [some (.ref 7), some (.int a1), some (.int 0), some (.int 0), none], [], st S hs, 0, 0)
    refine hX _ ?_
    clear hP hX hk P' X cal
    obtain ⟨q4, hq4, hr⟩ := bd_some hr
    refine (e_lp_X11_guess_14 d hs P a1 _ 0 0 S q4 hq4 ?_)
    have hr := Option.some.inj hr
    subst hr
    refine Wp.stepsG 2 (fun cal X P' hk hX hP => ?_)
    exact hP _ _ h
def lp_X11_sumOf_36_4 (S : St) (f1 : Int32) : Nat → Int32 → Int32 → Option (Int32)
  | 0, _, _ => none
  | n + 1, v2, v3 =>
    if 6 ≤ v3 then
      some v2
    else
      if (r_X11_in f1 v3) = 0 then
        lp_X11_sumOf_36_4 S f1 n v2 (v3 + 1)
      else
        gd (¬ (v3 < 0 ∨ 6 ≤ v3.toNatClampNeg)) (
          lp_X11_sumOf_36_4 S f1 n (v2 + ((S.1 36) v3.toNatClampNeg)) (v3 + 1))
set_option maxRecDepth 20000 in
set_option maxHeartbeats 4000000 in
theorem e_lp_X11_sumOf_36_4 (d : Nat) (hs : List Hr) (P : Option Value → Hp → Prop) (S : St) (f1 : Int32) : ∀ (n : Nat) (v2 : Int32) (v3 : Int32) (q : Int32), lp_X11_sumOf_36_4 S f1 n v2 v3 = some q → (WM mi_X11_sumOf (d + 1) P 30 [some (.ref 36), some (.int f1), some (.int q), none] [] (st S hs)) → WM mi_X11_sumOf (d + 1) P 4 [some (.ref 36), some (.int f1), some (.int v2), some (.int v3)] [] (st S hs) := by
  intro n
  induction n with
  | zero =>
    intro v2 v3 q hl
    cases hl
  | succ n ih =>
    intro v2 v3 q hl ct
    rw [lp_X11_sumOf_36_4] at hl
    refine Wp.stepsG 4 (fun cal X P' hk hX hP => ?_)
    show (6 ≤ v3 → X (30, [some (.ref 36), some (.int f1), some (.int v2), some (.int v3)], [], st S hs, 0, 0)) ∧ (¬ 6 ≤ v3 → X (10, [some (.ref 36), some (.int f1), some (.int v2), some (.int v3)], [], st S hs, 0, 0))
    refine ⟨fun hc => hX _ ?_, fun hc => hX _ ?_⟩
    · clear hP hX hk P' X cal
      rw [if_pos hc] at hl
      have hl := Option.some.inj hl
      subst hl
      exact Wp.weak (leL.k (leL.k (leL.k (leL.n leL.z)))) (ct)
    · clear hP hX hk P' X cal
      rw [if_neg hc] at hl
      refine Wp.stepsG 3 (fun cal X P' hk hX hP => ?_)
      show kcall cal ix_X11_in [.int f1, .int v3] (st S hs) [] 0 0 (0, 0) (fun v σ' c' m' => X (15, [some (.ref 36), some (.int f1), some (.int v2), some (.int v3)], v.toList ++ [], σ', c', m'))
      refine kcall0 rfl (hk _ _ _ _ _ _ (e_X11_in (d + 0) S hs f1 v3 _ ?_))
      show X (15, [some (.ref 36), some (.int f1), some (.int v2), some (.int v3)], [.int (r_X11_in f1 v3)], st S hs, 0, 0)
      refine hX _ ?_
      clear hP hX hk P' X cal
      refine Wp.stepsG 1 (fun cal X P' hk hX hP => ?_)
      show ((r_X11_in f1 v3) = 0 → X (24, [some (.ref 36), some (.int f1), some (.int v2), some (.int v3)], [], st S hs, 0, 0)) ∧ (¬ (r_X11_in f1 v3) = 0 → X (18, [some (.ref 36), some (.int f1), some (.int v2), some (.int v3)], [], st S hs, 0, 0))
      refine ⟨fun hc => hX _ ?_, fun hc => hX _ ?_⟩
      · clear hP hX hk P' X cal
        rw [if_pos hc] at hl
        refine Wp.stepsG 2 (fun cal X P' hk hX hP => ?_)
        show X (4, [some (.ref 36), some (.int f1), some (.int v2), some (.int (v3 + 1))], [], st S hs, 0, 0)
        refine hX _ ?_
        exact (ih v2 (v3 + 1) q hl ct)
      · clear hP hX hk P' X cal
        rw [if_neg hc] at hl
        refine Wp.stepsG 4 (fun cal X P' hk hX hP => ?_)
        show vp_in v3 6 ∧ X (22, [some (.ref 36), some (.int f1), some (.int v2), some (.int v3)], [.int ((S.1 36) v3.toNatClampNeg), .int v2], st S hs, 0, 0)
        obtain ⟨hg, hl⟩ := gd_some hl
        refine ⟨hg, hX _ ?_⟩
        clear hP hX hk P' X cal
        refine Wp.stepsG 4 (fun cal X P' hk hX hP => ?_)
        show X (4, [some (.ref 36), some (.int f1), some (.int (v2 + ((S.1 36) v3.toNatClampNeg))), some (.int (v3 + 1))], [], st S hs, 0, 0)
        refine hX _ ?_
        exact (ih (v2 + ((S.1 36) v3.toNatClampNeg)) (v3 + 1) q hl ct)
def r_X11_sumOf_36 (S : St) (a2 : Int32) : Option Int32 :=
  (lp_X11_sumOf_36_4 S a2 4000 0 0).bind fun q1 =>
    some q1
set_option maxRecDepth 20000 in
set_option maxHeartbeats 4000000 in
theorem e_X11_sumOf_36 (d : Nat) (S : St) (hs : List Hr) (a2 : Int32) (v : Int32) (hr : r_X11_sumOf_36 S a2 = some v) (P : Option Value → Hp → Prop) (h : P (some (.int v)) (st S hs)) : Ev (d + 2) ix_X11_sumOf 0 0 [.ref 36, .int a2] (st S hs) P := by
  refine Ev.intro (M := mi_X11_sumOf) rfl (Nat.le_of_ble_eq_true rfl) ?_
  unfold r_X11_sumOf_36 at hr
  refine Wp.stepsG 4 (fun cal X P' hk hX hP => ?_)
  show X (4, [some (.ref 36), some (.int a2), some (.int 0), some (.int 0)], [], st S hs, 0, 0)
  refine hX _ ?_
  clear hP hX hk P' X cal
  obtain ⟨q1, hq1, hr⟩ := bd_some hr
  refine (e_lp_X11_sumOf_36_4 d hs P S a2 _ 0 0 q1 hq1 ?_)
  have hr := Option.some.inj hr
  subst hr
  refine Wp.stepsG 2 (fun cal X P' hk hX hP => ?_)
  exact hP _ _ h
def lp_X11_odds_23 (hs : List Hr) (f1 : Int32) (f2 : Int32) : Nat → Int32 → St → Option (St)
  | 0, _, _ => none
  | n + 1, v3, S =>
    if (S.1 8 3) ≤ v3 then
      some S
    else
      (r_X11_laughNow S hs v3 f1).bind fun q1 =>
      gd (¬ (v3 < 0 ∨ 6 ≤ v3.toNatClampNeg)) (
        lp_X11_odds_23 hs f1 f2 n (v3 + 1) (sA q1.2 36 (upd (q1.2.1 36) v3.toNatClampNeg q1.1)))
set_option maxRecDepth 20000 in
set_option maxHeartbeats 4000000 in
theorem e_lp_X11_odds_23 (d : Nat) (hs : List Hr) (P : Option Value → Hp → Prop) (f1 : Int32) (f2 : Int32) : ∀ (n : Nat) (v3 : Int32) (S : St) (q : St), lp_X11_odds_23 hs f1 f2 n v3 S = some q → (WM mi_X11_odds (d + 6) P 52 [some (.ref 7), some (.int f1), some (.int f2), none, none, none] [] (st q hs)) → WM mi_X11_odds (d + 6) P 23 [some (.ref 7), some (.int f1), some (.int f2), some (.int v3), none, none] [] (st S hs) := by
  intro n
  induction n with
  | zero =>
    intro v3 S q hl
    cases hl
  | succ n ih =>
    intro v3 S q hl ct
    rw [lp_X11_odds_23] at hl
    refine Wp.stepsG 5 (fun cal X P' hk hX hP => ?_)
    show ((S.1 8 3) ≤ v3 → X (52, [some (.ref 7), some (.int f1), some (.int f2), some (.int v3), none, none], [], st S hs, 0, 0)) ∧ (¬ (S.1 8 3) ≤ v3 → X (34, [some (.ref 7), some (.int f1), some (.int f2), some (.int v3), none, none], [], st S hs, 0, 0))
    refine ⟨fun hc => hX _ ?_, fun hc => hX _ ?_⟩
    · clear hP hX hk P' X cal
      rw [if_pos hc] at hl
      have hl := Option.some.inj hl
      subst hl
      exact Wp.weak (leL.k (leL.k (leL.k (leL.n (leL.k (leL.k leL.z)))))) (ct)
    · clear hP hX hk P' X cal
      rw [if_neg hc] at hl
      refine Wp.stepsG 7 (fun cal X P' hk hX hP => ?_)
      show kcall cal ix_X11_laughNow [.ref 7, .int v3, .int f1] (st S hs) [.int v3, .ref 36] 0 0 (0, 0) (fun v σ' c' m' => X (45, [some (.ref 7), some (.int f1), some (.int f2), some (.int v3), none, none], v.toList ++ [.int v3, .ref 36], σ', c', m'))
      obtain ⟨q1, hq1, hl⟩ := bd_some hl
      refine kcall0 rfl (hk _ _ _ _ _ _ (e_X11_laughNow (d + 0) S hs v3 f1 q1 hq1 _ ?_))
      show X (45, [some (.ref 7), some (.int f1), some (.int f2), some (.int v3), none, none], [.int q1.1, .int v3, .ref 36], st q1.2 hs, 0, 0)
      refine hX _ ?_
      clear hP hX hk P' X cal
      refine Wp.stepsG 1 (fun cal X P' hk hX hP => ?_)
      show vp_in v3 6 ∧ X (46, [some (.ref 7), some (.int f1), some (.int f2), some (.int v3), none, none], [], st (sA q1.2 36 (upd (q1.2.1 36) v3.toNatClampNeg q1.1)) hs, 0, 0)
      obtain ⟨hg, hl⟩ := gd_some hl
      refine ⟨hg, hX _ ?_⟩
      clear hP hX hk P' X cal
      refine Wp.stepsG 2 (fun cal X P' hk hX hP => ?_)
      show X (23, [some (.ref 7), some (.int f1), some (.int f2), some (.int (v3 + 1)), none, none], [], st (sA q1.2 36 (upd (q1.2.1 36) v3.toNatClampNeg q1.1)) hs, 0, 0)
      refine hX _ ?_
      exact (ih (v3 + 1) (sA q1.2 36 (upd (q1.2.1 36) v3.toNatClampNeg q1.1)) q hl ct)
def lp_X11_odds_68 (S : St) (hs : List Hr) (f2 : Int32) (f3 : Int32) : Nat → Int32 → Int32 → Option (Int32)
  | 0, _, _ => none
  | n + 1, v4, v5 =>
    if f3 ≤ v5 then
      some v4
    else
      (r_X11_sumOf_36 S v5).bind fun q3 =>
      if q3 ≤ 0 then
        lp_X11_odds_68 S hs f2 f3 n v4 (v5 + 1)
      else
        lp_X11_odds_68 S hs f2 f3 n (v4 + 1) (v5 + 1)
set_option maxRecDepth 20000 in
set_option maxHeartbeats 4000000 in
theorem e_lp_X11_odds_68 (d : Nat) (hs : List Hr) (P : Option Value → Hp → Prop) (S : St) (f2 : Int32) (f3 : Int32) : ∀ (n : Nat) (v4 : Int32) (v5 : Int32) (q : Int32), lp_X11_odds_68 S hs f2 f3 n v4 v5 = some q → (WM mi_X11_odds (d + 6) P 95 [some (.ref 7), none, some (.int f2), some (.int f3), some (.int q), none] [] (st S hs)) → WM mi_X11_odds (d + 6) P 68 [some (.ref 7), none, some (.int f2), some (.int f3), some (.int v4), some (.int v5)] [] (st S hs) := by
  intro n
  induction n with
  | zero =>
    intro v4 v5 q hl
    cases hl
  | succ n ih =>
    intro v4 v5 q hl ct
    rw [lp_X11_odds_68] at hl
    refine Wp.stepsG 3 (fun cal X P' hk hX hP => ?_)
    show (f3 ≤ v5 → X (95, [some (.ref 7), none, some (.int f2), some (.int f3), some (.int v4), some (.int v5)], [], st S hs, 0, 0)) ∧ (¬ f3 ≤ v5 → X (74, [some (.ref 7), none, some (.int f2), some (.int f3), some (.int v4), some (.int v5)], [], st S hs, 0, 0))
    refine ⟨fun hc => hX _ ?_, fun hc => hX _ ?_⟩
    · clear hP hX hk P' X cal
      rw [if_pos hc] at hl
      have hl := Option.some.inj hl
      subst hl
      exact Wp.weak (leL.k (leL.k (leL.k (leL.k (leL.k (leL.n leL.z)))))) (ct)
    · clear hP hX hk P' X cal
      rw [if_neg hc] at hl
      refine Wp.stepsG 4 (fun cal X P' hk hX hP => ?_)
      show kcall cal ix_X11_sumOf [.ref 36, .int v5] (st S hs) [] 0 0 (0, 0) (fun v σ' c' m' => X (83, [some (.ref 7), none, some (.int f2), some (.int f3), some (.int v4), some (.int v5)], v.toList ++ [], σ', c', m'))
      obtain ⟨q3, hq3, hl⟩ := bd_some hl
      refine kcall0 rfl (hk _ _ _ _ _ _ (e_X11_sumOf_36 (d + 4) S hs v5 q3 hq3 _ ?_))
      show X (83, [some (.ref 7), none, some (.int f2), some (.int f3), some (.int v4), some (.int v5)], [.int q3], st S hs, 0, 0)
      refine hX _ ?_
      clear hP hX hk P' X cal
      refine Wp.stepsG 1 (fun cal X P' hk hX hP => ?_)
      show (q3 ≤ 0 → X (89, [some (.ref 7), none, some (.int f2), some (.int f3), some (.int v4), some (.int v5)], [], st S hs, 0, 0)) ∧ (¬ q3 ≤ 0 → X (86, [some (.ref 7), none, some (.int f2), some (.int f3), some (.int v4), some (.int v5)], [], st S hs, 0, 0))
      refine ⟨fun hc => hX _ ?_, fun hc => hX _ ?_⟩
      · clear hP hX hk P' X cal
        rw [if_pos hc] at hl
        refine Wp.stepsG 2 (fun cal X P' hk hX hP => ?_)
        show X (68, [some (.ref 7), none, some (.int f2), some (.int f3), some (.int v4), some (.int (v5 + 1))], [], st S hs, 0, 0)
        refine hX _ ?_
        exact (ih v4 (v5 + 1) q hl ct)
      · clear hP hX hk P' X cal
        rw [if_neg hc] at hl
        refine Wp.stepsG 3 (fun cal X P' hk hX hP => ?_)
        show X (68, [some (.ref 7), none, some (.int f2), some (.int f3), some (.int (v4 + 1)), some (.int (v5 + 1))], [], st S hs, 0, 0)
        refine hX _ ?_
        exact (ih (v4 + 1) (v5 + 1) q hl ct)
def r_X11_odds (S : St) (hs : List Hr) (a1 : Int32) (a2 : Int32) : Option (Int64 × St) :=
  if (r_X11_isStory S a1) = 0 then
    some ((-9223372036854775808), S)
  else
    if (r_X11_within a2 0 1) = 0 then
      some ((-9223372036854775808), S)
    else
      (lp_X11_odds_23 hs a1 a2 4000 0 S).bind fun q2 =>
        (lp_X11_odds_68 q2 hs a2 ((1 : Int32) <<< ((q2.1 8 3) &&& 31)) 4000 0 0).bind fun q4 =>
          (r_X11_partOf q4 ((1 : Int32) <<< ((q2.1 8 3) &&& 31)) a2).bind fun q5 =>
          some (q5.toInt64, q2)
set_option maxRecDepth 20000 in
set_option maxHeartbeats 4000000 in
theorem e_X11_odds (d : Nat) (S : St) (hs : List Hr) (a1 : Int32) (a2 : Int32) (v : Int64 × St) (hr : r_X11_odds S hs a1 a2 = some v) (P : Option Value → Hp → Prop) (h : P (some (.long v.1)) (st v.2 hs)) : Ev (d + 7) ix_X11_odds 0 0 [.ref 7, .int a1, .int a2] (st S hs) P := by
  refine Ev.intro (M := mi_X11_odds) rfl (Nat.le_of_ble_eq_true rfl) ?_
  unfold r_X11_odds at hr
  refine Wp.stepsG 3 (fun cal X P' hk hX hP => ?_)
  show kcall cal ix_X11_isStory [.ref 7, .int a1] (st S hs) [] 0 0 (0, 0) (fun v σ' c' m' => X (5, [some (.ref 7), some (.int a1), some (.int a2), none, none, none], v.toList ++ [], σ', c', m'))
  refine kcall0 rfl (hk _ _ _ _ _ _ (e_X11_isStory (d + 4) S hs a1 _ ?_))
  show X (5, [some (.ref 7), some (.int a1), some (.int a2), none, none, none], [.int (r_X11_isStory S a1)], st S hs, 0, 0)
  refine hX _ ?_
  clear hP hX hk P' X cal
  refine Wp.stepsG 1 (fun cal X P' hk hX hP => ?_)
  show ((r_X11_isStory S a1) = 0 → X (17, [some (.ref 7), some (.int a1), some (.int a2), none, none, none], [], st S hs, 0, 0)) ∧ (¬ (r_X11_isStory S a1) = 0 → X (8, [some (.ref 7), some (.int a1), some (.int a2), none, none, none], [], st S hs, 0, 0))
  refine ⟨fun hc => hX _ ?_, fun hc => hX _ ?_⟩
  · clear hP hX hk P' X cal
    rw [if_pos hc] at hr
    have hr := Option.some.inj hr
    subst hr
    refine Wp.stepsG 2 (fun cal X P' hk hX hP => ?_)
    exact hP _ _ h
  · clear hP hX hk P' X cal
    rw [if_neg hc] at hr
    refine Wp.stepsG 4 (fun cal X P' hk hX hP => ?_)
    show kcall cal ix_X11_within [.int a2, .int 0, .int 1] (st S hs) [] 0 0 (0, 0) (fun v σ' c' m' => X (14, [some (.ref 7), some (.int a1), some (.int a2), none, none, none], v.toList ++ [], σ', c', m'))
    refine kcall0 rfl (hk _ _ _ _ _ _ (e_X11_within (d + 5) S hs a2 0 1 _ ?_))
    show X (14, [some (.ref 7), some (.int a1), some (.int a2), none, none, none], [.int (r_X11_within a2 0 1)], st S hs, 0, 0)
    refine hX _ ?_
    clear hP hX hk P' X cal
    refine Wp.stepsG 1 (fun cal X P' hk hX hP => ?_)
    show (¬ (r_X11_within a2 0 1) = 0 → X (21, [some (.ref 7), some (.int a1), some (.int a2), none, none, none], [], st S hs, 0, 0)) ∧ ((r_X11_within a2 0 1) = 0 → X (17, [some (.ref 7), some (.int a1), some (.int a2), none, none, none], [], st S hs, 0, 0))
    refine ⟨fun hc => hX _ ?_, fun hc => hX _ ?_⟩
    · clear hP hX hk P' X cal
      rw [if_neg hc] at hr
      refine Wp.stepsG 2 (fun cal X P' hk hX hP => ?_)
      show X (23, [some (.ref 7), some (.int a1), some (.int a2), some (.int 0), none, none], [], st S hs, 0, 0)
      refine hX _ ?_
      clear hP hX hk P' X cal
      obtain ⟨q2, hq2, hr⟩ := bd_some hr
      refine (e_lp_X11_odds_23 d hs P a1 a2 _ 0 S q2 hq2 ?_)
      refine Wp.stepsG 10 (fun cal X P' hk hX hP => ?_)
      show X (68, [some (.ref 7), some (.int a1), some (.int a2), some (.int ((1 : Int32) <<< ((q2.1 8 3) &&& 31))), some (.int 0), some (.int 0)], [], st q2 hs, 0, 0)
      refine hX _ ?_
      clear hP hX hk P' X cal
      obtain ⟨q4, hq4, hr⟩ := bd_some hr
      refine Wp.weak (leL.k (leL.n (leL.k (leL.k (leL.k (leL.k leL.z)))))) (e_lp_X11_odds_68 d hs P q2 a2 ((1 : Int32) <<< ((q2.1 8 3) &&& 31)) _ 0 0 q4 hq4 ?_)
      refine Wp.stepsG 4 (fun cal X P' hk hX hP => ?_)
      show kcall cal ix_X11_partOf [.int q4, .int ((1 : Int32) <<< ((q2.1 8 3) &&& 31)), .int a2] (st q2 hs) [] 0 0 (0, 0) (fun v σ' c' m' => X (102, [some (.ref 7), none, some (.int a2), some (.int ((1 : Int32) <<< ((q2.1 8 3) &&& 31))), some (.int q4), none], v.toList ++ [], σ', c', m'))
      obtain ⟨q5, hq5, hr⟩ := bd_some hr
      refine kcall0 rfl (hk _ _ _ _ _ _ (e_X11_partOf (d + 5) q2 hs q4 ((1 : Int32) <<< ((q2.1 8 3) &&& 31)) a2 q5 hq5 _ ?_))
      show X (102, [some (.ref 7), none, some (.int a2), some (.int ((1 : Int32) <<< ((q2.1 8 3) &&& 31))), some (.int q4), none], [.int q5], st q2 hs, 0, 0)
      refine hX _ ?_
      clear hP hX hk P' X cal
      have hr := Option.some.inj hr
      subst hr
      refine Wp.stepsG 2 (fun cal X P' hk hX hP => ?_)
      exact hP _ _ h
    · clear hP hX hk P' X cal
      rw [if_pos hc] at hr
      have hr := Option.some.inj hr
      subst hr
      refine Wp.stepsG 2 (fun cal X P' hk hX hP => ?_)
      exact hP _ _ h
def r_X11_mean (S : St) (hs : List Hr) (a1 : Int32) (a2 : Int32) : Option (Int64 × St) :=
  if (r_X11_isTable S a1) = 0 then
    some ((-9223372036854775808), S)
  else
    if (r_X11_within a2 0 1) = 0 then
      some ((-9223372036854775808), S)
    else
      if (S.1 8 2) = 0 then
        some ((-9223372036854775808), S)
      else
        (r_X11_weigh_34 S hs a1 (S.1 8 0)).bind fun q1 =>
        (r_X11_sumOf_34 q1.2 (((1 : Int32) <<< ((q1.2.1 8 2) &&& 31)) - 1)).bind fun q2 =>
        (r_X11_partOf q2 (q1.2.1 8 2) a2).bind fun q3 =>
        some (q3.toInt64, q1.2)
set_option maxRecDepth 20000 in
set_option maxHeartbeats 4000000 in
theorem e_X11_mean (d : Nat) (S : St) (hs : List Hr) (a1 : Int32) (a2 : Int32) (v : Int64 × St) (hr : r_X11_mean S hs a1 a2 = some v) (P : Option Value → Hp → Prop) (h : P (some (.long v.1)) (st v.2 hs)) : Ev (d + 8) ix_X11_mean 0 0 [.ref 7, .int a1, .int a2] (st S hs) P := by
  refine Ev.intro (M := mi_X11_mean) rfl (Nat.le_of_ble_eq_true rfl) ?_
  unfold r_X11_mean at hr
  refine Wp.stepsG 3 (fun cal X P' hk hX hP => ?_)
  show kcall cal ix_X11_isTable [.ref 7, .int a1] (st S hs) [] 0 0 (0, 0) (fun v σ' c' m' => X (5, [some (.ref 7), some (.int a1), some (.int a2)], v.toList ++ [], σ', c', m'))
  refine kcall0 rfl (hk _ _ _ _ _ _ (e_X11_isTable (d + 5) S hs a1 _ ?_))
  show X (5, [some (.ref 7), some (.int a1), some (.int a2)], [.int (r_X11_isTable S a1)], st S hs, 0, 0)
  refine hX _ ?_
  clear hP hX hk P' X cal
  refine Wp.stepsG 1 (fun cal X P' hk hX hP => ?_)
  show ((r_X11_isTable S a1) = 0 → X (27, [some (.ref 7), some (.int a1), some (.int a2)], [], st S hs, 0, 0)) ∧ (¬ (r_X11_isTable S a1) = 0 → X (8, [some (.ref 7), some (.int a1), some (.int a2)], [], st S hs, 0, 0))
  refine ⟨fun hc => hX _ ?_, fun hc => hX _ ?_⟩
  · clear hP hX hk P' X cal
    rw [if_pos hc] at hr
    have hr := Option.some.inj hr
    subst hr
    refine Wp.stepsG 2 (fun cal X P' hk hX hP => ?_)
    exact hP _ _ h
  · clear hP hX hk P' X cal
    rw [if_neg hc] at hr
    refine Wp.stepsG 4 (fun cal X P' hk hX hP => ?_)
    show kcall cal ix_X11_within [.int a2, .int 0, .int 1] (st S hs) [] 0 0 (0, 0) (fun v σ' c' m' => X (14, [some (.ref 7), some (.int a1), some (.int a2)], v.toList ++ [], σ', c', m'))
    refine kcall0 rfl (hk _ _ _ _ _ _ (e_X11_within (d + 6) S hs a2 0 1 _ ?_))
    show X (14, [some (.ref 7), some (.int a1), some (.int a2)], [.int (r_X11_within a2 0 1)], st S hs, 0, 0)
    refine hX _ ?_
    clear hP hX hk P' X cal
    refine Wp.stepsG 1 (fun cal X P' hk hX hP => ?_)
    show ((r_X11_within a2 0 1) = 0 → X (27, [some (.ref 7), some (.int a1), some (.int a2)], [], st S hs, 0, 0)) ∧ (¬ (r_X11_within a2 0 1) = 0 → X (17, [some (.ref 7), some (.int a1), some (.int a2)], [], st S hs, 0, 0))
    refine ⟨fun hc => hX _ ?_, fun hc => hX _ ?_⟩
    · clear hP hX hk P' X cal
      rw [if_pos hc] at hr
      have hr := Option.some.inj hr
      subst hr
      refine Wp.stepsG 2 (fun cal X P' hk hX hP => ?_)
      exact hP _ _ h
    · clear hP hX hk P' X cal
      rw [if_neg hc] at hr
      refine Wp.stepsG 4 (fun cal X P' hk hX hP => ?_)
      show (¬ (S.1 8 2) = 0 → X (31, [some (.ref 7), some (.int a1), some (.int a2)], [], st S hs, 0, 0)) ∧ ((S.1 8 2) = 0 → X (27, [some (.ref 7), some (.int a1), some (.int a2)], [], st S hs, 0, 0))
      refine ⟨fun hc => hX _ ?_, fun hc => hX _ ?_⟩
      · clear hP hX hk P' X cal
        rw [if_neg hc] at hr
        refine Wp.stepsG 8 (fun cal X P' hk hX hP => ?_)
        show kcall cal ix_X11_weigh [.ref 7, .ref 34, .int a1, .int (S.1 8 0)] (st S hs) [] 0 0 (0, 0) (fun v σ' c' m' => X (47, [some (.ref 7), some (.int a1), some (.int a2)], v.toList ++ [], σ', c', m'))
        obtain ⟨q1, hq1, hr⟩ := bd_some hr
        refine kcall0 rfl (hk _ _ _ _ _ _ (e_X11_weigh_34 (d + 0) S hs a1 (S.1 8 0) q1 hq1 _ ?_))
        show X (47, [some (.ref 7), some (.int a1), some (.int a2)], [], st q1.2 hs, 0, 0)
        refine hX _ ?_
        clear hP hX hk P' X cal
        refine Wp.stepsG 10 (fun cal X P' hk hX hP => ?_)
        show kcall cal ix_X11_sumOf [.ref 34, .int (((1 : Int32) <<< ((q1.2.1 8 2) &&& 31)) - 1)] (st q1.2 hs) [] 0 0 (0, 0) (fun v σ' c' m' => X (65, [some (.ref 7), some (.int a1), some (.int a2)], v.toList ++ [], σ', c', m'))
        obtain ⟨q2, hq2, hr⟩ := bd_some hr
        refine kcall0 rfl (hk _ _ _ _ _ _ (e_X11_sumOf_34 (d + 5) q1.2 hs (((1 : Int32) <<< ((q1.2.1 8 2) &&& 31)) - 1) q2 hq2 _ ?_))
        show X (65, [some (.ref 7), some (.int a1), some (.int a2)], [.int q2], st q1.2 hs, 0, 0)
        refine hX _ ?_
        clear hP hX hk P' X cal
        refine Wp.stepsG 5 (fun cal X P' hk hX hP => ?_)
        show kcall cal ix_X11_partOf [.int q2, .int (q1.2.1 8 2), .int a2] (st q1.2 hs) [] 0 0 (0, 0) (fun v σ' c' m' => X (76, [some (.ref 7), some (.int a1), some (.int a2)], v.toList ++ [], σ', c', m'))
        obtain ⟨q3, hq3, hr⟩ := bd_some hr
        refine kcall0 rfl (hk _ _ _ _ _ _ (e_X11_partOf (d + 6) q1.2 hs q2 (q1.2.1 8 2) a2 q3 hq3 _ ?_))
        show X (76, [some (.ref 7), some (.int a1), some (.int a2)], [.int q3], st q1.2 hs, 0, 0)
        refine hX _ ?_
        clear hP hX hk P' X cal
        have hr := Option.some.inj hr
        subst hr
        refine Wp.stepsG 2 (fun cal X P' hk hX hP => ?_)
        exact hP _ _ h
      · clear hP hX hk P' X cal
        rw [if_pos hc] at hr
        have hr := Option.some.inj hr
        subst hr
        refine Wp.stepsG 2 (fun cal X P' hk hX hP => ?_)
        exact hP _ _ h
def lp_X11_looked_20 (S : St) (hs : List Hr) (f1 : Int32) : Nat → Int32 → Int32 → Int32 → Option (Int32 × Int32)
  | 0, _, _, _ => none
  | n + 1, v2, v3, v4 =>
    if f1 ≤ v4 then
      some (v2, v3)
    else
      gd (¬ (v4 < 0 ∨ 10 ≤ v4.toNatClampNeg)) (
        gd (¬ (f1 < 0 ∨ 10 ≤ f1.toNatClampNeg)) (
          if ((S.1 17) v4.toNatClampNeg) = ((S.1 17) f1.toNatClampNeg) then
            lp_X11_looked_20 S hs f1 n (v2 + 1) ((S.1 8 0) + v4) (v4 + 1)
          else
            lp_X11_looked_20 S hs f1 n v2 v3 (v4 + 1)))
set_option maxRecDepth 20000 in
set_option maxHeartbeats 4000000 in
theorem e_lp_X11_looked_20 (d : Nat) (hs : List Hr) (P : Option Value → Hp → Prop) (S : St) (f1 : Int32) : ∀ (n : Nat) (v2 : Int32) (v3 : Int32) (v4 : Int32) (q : Int32 × Int32), lp_X11_looked_20 S hs f1 n v2 v3 v4 = some q → (WM mi_X11_looked (d + 6) P 68 [some (.ref 7), some (.int f1), some (.int q.1), some (.int q.2), none] [] (st S hs)) → WM mi_X11_looked (d + 6) P 20 [some (.ref 7), some (.int f1), some (.int v2), some (.int v3), some (.int v4)] [] (st S hs) := by
  intro n
  induction n with
  | zero =>
    intro v2 v3 v4 q hl
    cases hl
  | succ n ih =>
    intro v2 v3 v4 q hl ct
    rw [lp_X11_looked_20] at hl
    refine Wp.stepsG 3 (fun cal X P' hk hX hP => ?_)
    show (f1 ≤ v4 → X (68, [some (.ref 7), some (.int f1), some (.int v2), some (.int v3), some (.int v4)], [], st S hs, 0, 0)) ∧ (¬ f1 ≤ v4 → X (26, [some (.ref 7), some (.int f1), some (.int v2), some (.int v3), some (.int v4)], [], st S hs, 0, 0))
    refine ⟨fun hc => hX _ ?_, fun hc => hX _ ?_⟩
    · clear hP hX hk P' X cal
      rw [if_pos hc] at hl
      have hl := Option.some.inj hl
      subst hl
      exact Wp.weak (leL.k (leL.k (leL.k (leL.k (leL.n leL.z))))) (ct)
    · clear hP hX hk P' X cal
      rw [if_neg hc] at hl
      refine Wp.stepsG 5 (fun cal X P' hk hX hP => ?_)
      show vp_in v4 10 ∧ X (36, [some (.ref 7), some (.int f1), some (.int v2), some (.int v3), some (.int v4)], [.int ((S.1 17) v4.toNatClampNeg)], st S hs, 0, 0)
      obtain ⟨hg, hl⟩ := gd_some hl
      refine ⟨hg, hX _ ?_⟩
      clear hP hX hk P' X cal
      refine Wp.stepsG 5 (fun cal X P' hk hX hP => ?_)
      show vp_in f1 10 ∧ X (45, [some (.ref 7), some (.int f1), some (.int v2), some (.int v3), some (.int v4)], [.int ((S.1 17) f1.toNatClampNeg), .int ((S.1 17) v4.toNatClampNeg)], st S hs, 0, 0)
      obtain ⟨hg, hl⟩ := gd_some hl
      refine ⟨hg, hX _ ?_⟩
      clear hP hX hk P' X cal
      refine Wp.stepsG 1 (fun cal X P' hk hX hP => ?_)
      show (¬ ((S.1 17) v4.toNatClampNeg) = ((S.1 17) f1.toNatClampNeg) → X (62, [some (.ref 7), some (.int f1), some (.int v2), some (.int v3), some (.int v4)], [], st S hs, 0, 0)) ∧ (((S.1 17) v4.toNatClampNeg) = ((S.1 17) f1.toNatClampNeg) → X (48, [some (.ref 7), some (.int f1), some (.int v2), some (.int v3), some (.int v4)], [], st S hs, 0, 0))
      refine ⟨fun hc => hX _ ?_, fun hc => hX _ ?_⟩
      · clear hP hX hk P' X cal
        rw [if_neg hc] at hl
        refine Wp.stepsG 2 (fun cal X P' hk hX hP => ?_)
        show X (20, [some (.ref 7), some (.int f1), some (.int v2), some (.int v3), some (.int (v4 + 1))], [], st S hs, 0, 0)
        refine hX _ ?_
        exact (ih v2 v3 (v4 + 1) q hl ct)
      · clear hP hX hk P' X cal
        rw [if_pos hc] at hl
        refine Wp.stepsG 9 (fun cal X P' hk hX hP => ?_)
        show X (20, [some (.ref 7), some (.int f1), some (.int (v2 + 1)), some (.int ((S.1 8 0) + v4)), some (.int (v4 + 1))], [], st S hs, 0, 0)
        refine hX _ ?_
        exact (ih (v2 + 1) ((S.1 8 0) + v4) (v4 + 1) q hl ct)
def lp_X11_looked_2 (hs : List Hr) : Nat → Int32 → St → Option (Nat × Int32 × St)
  | 0, _, _ => none
  | n + 1, v1, S =>
    if (S.1 8 5) ≤ v1 then
      some (1, v1, S)
    else
      (lp_X11_looked_20 S hs v1 4000 0 0 0).bind fun q1 =>
        gd (¬ (v1 < 0 ∨ 10 ≤ v1.toNatClampNeg)) (
          (r_X11_laughterThen S hs ((S.1 17) v1.toNatClampNeg) (r_X11_everybody S) ((S.1 8 0) + v1) q1.1 q1.2).bind fun q2 =>
          if 0 < q2.1 then
            lp_X11_looked_2 hs n (v1 + 1) q2.2
          else
            some (0, v1, q2.2))
set_option maxRecDepth 20000 in
set_option maxHeartbeats 4000000 in
theorem e_lp_X11_looked_2 (d : Nat) (hs : List Hr) (P : Option Value → Hp → Prop) : ∀ (n : Nat) (v1 : Int32) (S : St) (q : Nat × Int32 × St), lp_X11_looked_2 hs n v1 S = some q → (q.1 = 0 → WM mi_X11_looked (d + 6) P 99 [some (.ref 7), some (.int q.2.1), none, none, none] [] (st q.2.2 hs)) ∧ (q.1 = 1 → WM mi_X11_looked (d + 6) P 107 [some (.ref 7), none, none, none, none] [] (st q.2.2 hs)) → WM mi_X11_looked (d + 6) P 2 [some (.ref 7), some (.int v1), none, none, none] [] (st S hs) := by
  intro n
  induction n with
  | zero =>
    intro v1 S q hl
    cases hl
  | succ n ih =>
    intro v1 S q hl ct
    rw [lp_X11_looked_2] at hl
    refine Wp.stepsG 5 (fun cal X P' hk hX hP => ?_)
    show ((S.1 8 5) ≤ v1 → X (107, [some (.ref 7), some (.int v1), none, none, none], [], st S hs, 0, 0)) ∧ (¬ (S.1 8 5) ≤ v1 → X (13, [some (.ref 7), some (.int v1), none, none, none], [], st S hs, 0, 0))
    refine ⟨fun hc => hX _ ?_, fun hc => hX _ ?_⟩
    · clear hP hX hk P' X cal
      rw [if_pos hc] at hl
      have hl := Option.some.inj hl
      subst hl
      exact Wp.weak (leL.k (leL.n (leL.k (leL.k (leL.k leL.z))))) (ct.2 rfl)
    · clear hP hX hk P' X cal
      rw [if_neg hc] at hl
      refine Wp.stepsG 6 (fun cal X P' hk hX hP => ?_)
      show X (20, [some (.ref 7), some (.int v1), some (.int 0), some (.int 0), some (.int 0)], [], st S hs, 0, 0)
      refine hX _ ?_
      clear hP hX hk P' X cal
      obtain ⟨q1, hq1, hl⟩ := bd_some hl
      refine (e_lp_X11_looked_20 d hs P S v1 _ 0 0 0 q1 hq1 ?_)
      refine Wp.stepsG 6 (fun cal X P' hk hX hP => ?_)
      show vp_in v1 10 ∧ X (78, [some (.ref 7), some (.int v1), some (.int q1.1), some (.int q1.2), none], [.int ((S.1 17) v1.toNatClampNeg), .ref 7], st S hs, 0, 0)
      obtain ⟨hg, hl⟩ := gd_some hl
      refine ⟨hg, hX _ ?_⟩
      clear hP hX hk P' X cal
      refine Wp.stepsG 2 (fun cal X P' hk hX hP => ?_)
      show kcall cal ix_X11_everybody [.ref 7] (st S hs) [.int ((S.1 17) v1.toNatClampNeg), .ref 7] 0 0 (0, 0) (fun v σ' c' m' => X (82, [some (.ref 7), some (.int v1), some (.int q1.1), some (.int q1.2), none], v.toList ++ [.int ((S.1 17) v1.toNatClampNeg), .ref 7], σ', c', m'))
      refine kcall0 rfl (hk _ _ _ _ _ _ (e_X11_everybody (d + 5) S hs _ ?_))
      show X (82, [some (.ref 7), some (.int v1), some (.int q1.1), some (.int q1.2), none], [.int (r_X11_everybody S), .int ((S.1 17) v1.toNatClampNeg), .ref 7], st S hs, 0, 0)
      refine hX _ ?_
      clear hP hX hk P' X cal
      refine Wp.stepsG 8 (fun cal X P' hk hX hP => ?_)
      show kcall cal ix_X11_laughterThen [.ref 7, .int ((S.1 17) v1.toNatClampNeg), .int (r_X11_everybody S), .int ((S.1 8 0) + v1), .int q1.1, .int q1.2] (st S hs) [] 0 0 (0, 0) (fun v σ' c' m' => X (96, [some (.ref 7), some (.int v1), some (.int q1.1), some (.int q1.2), none], v.toList ++ [], σ', c', m'))
      obtain ⟨q2, hq2, hl⟩ := bd_some hl
      refine kcall0 rfl (hk _ _ _ _ _ _ (e_X11_laughterThen (d + 0) S hs ((S.1 17) v1.toNatClampNeg) (r_X11_everybody S) ((S.1 8 0) + v1) q1.1 q1.2 q2 hq2 _ ?_))
      show X (96, [some (.ref 7), some (.int v1), some (.int q1.1), some (.int q1.2), none], [.int q2.1], st q2.2 hs, 0, 0)
      refine hX _ ?_
      clear hP hX hk P' X cal
      refine Wp.stepsG 1 (fun cal X P' hk hX hP => ?_)
      show (0 < q2.1 → X (101, [some (.ref 7), some (.int v1), some (.int q1.1), some (.int q1.2), none], [], st q2.2 hs, 0, 0)) ∧ (¬ 0 < q2.1 → X (99, [some (.ref 7), some (.int v1), some (.int q1.1), some (.int q1.2), none], [], st q2.2 hs, 0, 0))
      refine ⟨fun hc => hX _ ?_, fun hc => hX _ ?_⟩
      · clear hP hX hk P' X cal
        rw [if_pos hc] at hl
        refine Wp.stepsG 2 (fun cal X P' hk hX hP => ?_)
        show X (2, [some (.ref 7), some (.int (v1 + 1)), some (.int q1.1), some (.int q1.2), none], [], st q2.2 hs, 0, 0)
        refine hX _ ?_
        exact Wp.weak (leL.k (leL.k (leL.n (leL.n (leL.k leL.z))))) (ih (v1 + 1) q2.2 q hl ct)
      · clear hP hX hk P' X cal
        rw [if_neg hc] at hl
        have hl := Option.some.inj hl
        subst hl
        exact Wp.weak (leL.k (leL.k (leL.n (leL.n (leL.k leL.z))))) (ct.1 rfl)
def r_X11_looked (S : St) (hs : List Hr) : Option (Int32 × St) :=
  (lp_X11_looked_2 hs 4000 0 S).bind fun q3 =>
  if q3.1 = 0 then
    some (q3.2.1, q3.2.2)
  else
    some ((-5), q3.2.2)
set_option maxRecDepth 20000 in
set_option maxHeartbeats 4000000 in
theorem e_X11_looked (d : Nat) (S : St) (hs : List Hr) (v : Int32 × St) (hr : r_X11_looked S hs = some v) (P : Option Value → Hp → Prop) (h : P (some (.int v.1)) (st v.2 hs)) : Ev (d + 7) ix_X11_looked 0 0 [.ref 7] (st S hs) P := by
  refine Ev.intro (M := mi_X11_looked) rfl (Nat.le_of_ble_eq_true rfl) ?_
  unfold r_X11_looked at hr
  refine Wp.stepsG 2 (fun cal X P' hk hX hP => ?_)
  show X (2, [some (.ref 7), some (.int 0), none, none, none], [], st S hs, 0, 0)
  refine hX _ ?_
  clear hP hX hk P' X cal
  obtain ⟨q3, hq3, hr⟩ := bd_some hr
  refine (e_lp_X11_looked_2 d hs P _ 0 S q3 hq3 ?_)
  refine ⟨fun hc => ?_, fun hc => ?_⟩
  · have hcc := hc
    rw [if_pos hcc] at hr
    have hr := Option.some.inj hr
    subst hr
    refine Wp.stepsG 2 (fun cal X P' hk hX hP => ?_)
    exact hP _ _ h
  · have hcc := hc
    rw [if_neg (fun z => by rw [z] at hcc; exact absurd hcc (by decide))] at hr
    have hr := Option.some.inj hr
    subst hr
    refine Wp.stepsG 2 (fun cal X P' hk hX hP => ?_)
    exact hP _ _ h
def lp_X11_copy_12_22_2 : Nat → Int32 → St → Option (St)
  | 0, _, _ => none
  | n + 1, v2, S =>
    if 48 ≤ v2 then
      some S
    else
      if 48 ≤ v2 then
        some S
      else
        gd (¬ (v2 < 0 ∨ 48 ≤ v2.toNatClampNeg)) (
          gd (¬ (v2 < 0 ∨ 48 ≤ v2.toNatClampNeg)) (
            lp_X11_copy_12_22_2 n (v2 + 1) (sA S 22 (upd (S.1 22) v2.toNatClampNeg ((S.1 12) v2.toNatClampNeg)))))
set_option maxRecDepth 20000 in
set_option maxHeartbeats 4000000 in
theorem e_lp_X11_copy_12_22_2 (d : Nat) (hs : List Hr) (P : Option Value → Hp → Prop) : ∀ (n : Nat) (v2 : Int32) (S : St) (q : St), lp_X11_copy_12_22_2 n v2 S = some q → (WM mi_X11_copy (d + 0) P 26 [some (.ref 12), some (.ref 22), none] [] (st q hs)) → WM mi_X11_copy (d + 0) P 2 [some (.ref 12), some (.ref 22), some (.int v2)] [] (st S hs) := by
  intro n
  induction n with
  | zero =>
    intro v2 S q hl
    cases hl
  | succ n ih =>
    intro v2 S q hl ct
    rw [lp_X11_copy_12_22_2] at hl
    refine Wp.stepsG 4 (fun cal X P' hk hX hP => ?_)
    show (48 ≤ v2 → X (26, [some (.ref 12), some (.ref 22), some (.int v2)], [], st S hs, 0, 0)) ∧ (¬ 48 ≤ v2 → X (8, [some (.ref 12), some (.ref 22), some (.int v2)], [], st S hs, 0, 0))
    refine ⟨fun hc => hX _ ?_, fun hc => hX _ ?_⟩
    · clear hP hX hk P' X cal
      rw [if_pos hc] at hl
      have hl := Option.some.inj hl
      subst hl
      exact Wp.weak (leL.k (leL.k (leL.n leL.z))) (ct)
    · clear hP hX hk P' X cal
      rw [if_neg hc] at hl
      refine Wp.stepsG 4 (fun cal X P' hk hX hP => ?_)
      show (48 ≤ v2 → X (26, [some (.ref 12), some (.ref 22), some (.int v2)], [], st S hs, 0, 0)) ∧ (¬ 48 ≤ v2 → X (14, [some (.ref 12), some (.ref 22), some (.int v2)], [], st S hs, 0, 0))
      refine ⟨fun hc => hX _ ?_, fun hc => hX _ ?_⟩
      · clear hP hX hk P' X cal
        rw [if_pos hc] at hl
        have hl := Option.some.inj hl
        subst hl
        exact Wp.weak (leL.k (leL.k (leL.n leL.z))) (ct)
      · clear hP hX hk P' X cal
        rw [if_neg hc] at hl
        refine Wp.stepsG 5 (fun cal X P' hk hX hP => ?_)
        show vp_in v2 48 ∧ X (19, [some (.ref 12), some (.ref 22), some (.int v2)], [.int ((S.1 12) v2.toNatClampNeg), .int v2, .ref 22], st S hs, 0, 0)
        obtain ⟨hg, hl⟩ := gd_some hl
        refine ⟨hg, hX _ ?_⟩
        clear hP hX hk P' X cal
        refine Wp.stepsG 1 (fun cal X P' hk hX hP => ?_)
        show vp_in v2 48 ∧ X (20, [some (.ref 12), some (.ref 22), some (.int v2)], [], st (sA S 22 (upd (S.1 22) v2.toNatClampNeg ((S.1 12) v2.toNatClampNeg))) hs, 0, 0)
        obtain ⟨hg, hl⟩ := gd_some hl
        refine ⟨hg, hX _ ?_⟩
        clear hP hX hk P' X cal
        refine Wp.stepsG 2 (fun cal X P' hk hX hP => ?_)
        show X (2, [some (.ref 12), some (.ref 22), some (.int (v2 + 1))], [], st (sA S 22 (upd (S.1 22) v2.toNatClampNeg ((S.1 12) v2.toNatClampNeg))) hs, 0, 0)
        refine hX _ ?_
        exact (ih (v2 + 1) (sA S 22 (upd (S.1 22) v2.toNatClampNeg ((S.1 12) v2.toNatClampNeg))) q hl ct)
def r_X11_copy_12_22 (S : St) : Option (Int32 × St) :=
  (lp_X11_copy_12_22_2 4000 0 S).bind fun q1 =>
    some (0, q1)
set_option maxRecDepth 20000 in
set_option maxHeartbeats 4000000 in
theorem e_X11_copy_12_22 (d : Nat) (S : St) (hs : List Hr) (v : Int32 × St) (hr : r_X11_copy_12_22 S = some v) (P : Option Value → Hp → Prop) (h : P none (st v.2 hs)) : Ev (d + 1) ix_X11_copy 0 0 [.ref 12, .ref 22] (st S hs) P := by
  refine Ev.intro (M := mi_X11_copy) rfl (Nat.le_of_ble_eq_true rfl) ?_
  unfold r_X11_copy_12_22 at hr
  refine Wp.stepsG 2 (fun cal X P' hk hX hP => ?_)
  show X (2, [some (.ref 12), some (.ref 22), some (.int 0)], [], st S hs, 0, 0)
  refine hX _ ?_
  clear hP hX hk P' X cal
  obtain ⟨q1, hq1, hr⟩ := bd_some hr
  refine (e_lp_X11_copy_12_22_2 d hs P _ 0 S q1 hq1 ?_)
  have hr := Option.some.inj hr
  subst hr
  refine Wp.stepsG 1 (fun cal X P' hk hX hP => ?_)
  exact hP _ _ h
def lp_X11_copy_13_23_2 : Nat → Int32 → St → Option (St)
  | 0, _, _ => none
  | n + 1, v2, S =>
    if 48 ≤ v2 then
      some S
    else
      if 48 ≤ v2 then
        some S
      else
        gd (¬ (v2 < 0 ∨ 48 ≤ v2.toNatClampNeg)) (
          gd (¬ (v2 < 0 ∨ 48 ≤ v2.toNatClampNeg)) (
            lp_X11_copy_13_23_2 n (v2 + 1) (sA S 23 (upd (S.1 23) v2.toNatClampNeg ((S.1 13) v2.toNatClampNeg)))))
set_option maxRecDepth 20000 in
set_option maxHeartbeats 4000000 in
theorem e_lp_X11_copy_13_23_2 (d : Nat) (hs : List Hr) (P : Option Value → Hp → Prop) : ∀ (n : Nat) (v2 : Int32) (S : St) (q : St), lp_X11_copy_13_23_2 n v2 S = some q → (WM mi_X11_copy (d + 0) P 26 [some (.ref 13), some (.ref 23), none] [] (st q hs)) → WM mi_X11_copy (d + 0) P 2 [some (.ref 13), some (.ref 23), some (.int v2)] [] (st S hs) := by
  intro n
  induction n with
  | zero =>
    intro v2 S q hl
    cases hl
  | succ n ih =>
    intro v2 S q hl ct
    rw [lp_X11_copy_13_23_2] at hl
    refine Wp.stepsG 4 (fun cal X P' hk hX hP => ?_)
    show (48 ≤ v2 → X (26, [some (.ref 13), some (.ref 23), some (.int v2)], [], st S hs, 0, 0)) ∧ (¬ 48 ≤ v2 → X (8, [some (.ref 13), some (.ref 23), some (.int v2)], [], st S hs, 0, 0))
    refine ⟨fun hc => hX _ ?_, fun hc => hX _ ?_⟩
    · clear hP hX hk P' X cal
      rw [if_pos hc] at hl
      have hl := Option.some.inj hl
      subst hl
      exact Wp.weak (leL.k (leL.k (leL.n leL.z))) (ct)
    · clear hP hX hk P' X cal
      rw [if_neg hc] at hl
      refine Wp.stepsG 4 (fun cal X P' hk hX hP => ?_)
      show (48 ≤ v2 → X (26, [some (.ref 13), some (.ref 23), some (.int v2)], [], st S hs, 0, 0)) ∧ (¬ 48 ≤ v2 → X (14, [some (.ref 13), some (.ref 23), some (.int v2)], [], st S hs, 0, 0))
      refine ⟨fun hc => hX _ ?_, fun hc => hX _ ?_⟩
      · clear hP hX hk P' X cal
        rw [if_pos hc] at hl
        have hl := Option.some.inj hl
        subst hl
        exact Wp.weak (leL.k (leL.k (leL.n leL.z))) (ct)
      · clear hP hX hk P' X cal
        rw [if_neg hc] at hl
        refine Wp.stepsG 5 (fun cal X P' hk hX hP => ?_)
        show vp_in v2 48 ∧ X (19, [some (.ref 13), some (.ref 23), some (.int v2)], [.int ((S.1 13) v2.toNatClampNeg), .int v2, .ref 23], st S hs, 0, 0)
        obtain ⟨hg, hl⟩ := gd_some hl
        refine ⟨hg, hX _ ?_⟩
        clear hP hX hk P' X cal
        refine Wp.stepsG 1 (fun cal X P' hk hX hP => ?_)
        show vp_in v2 48 ∧ X (20, [some (.ref 13), some (.ref 23), some (.int v2)], [], st (sA S 23 (upd (S.1 23) v2.toNatClampNeg ((S.1 13) v2.toNatClampNeg))) hs, 0, 0)
        obtain ⟨hg, hl⟩ := gd_some hl
        refine ⟨hg, hX _ ?_⟩
        clear hP hX hk P' X cal
        refine Wp.stepsG 2 (fun cal X P' hk hX hP => ?_)
        show X (2, [some (.ref 13), some (.ref 23), some (.int (v2 + 1))], [], st (sA S 23 (upd (S.1 23) v2.toNatClampNeg ((S.1 13) v2.toNatClampNeg))) hs, 0, 0)
        refine hX _ ?_
        exact (ih (v2 + 1) (sA S 23 (upd (S.1 23) v2.toNatClampNeg ((S.1 13) v2.toNatClampNeg))) q hl ct)
def r_X11_copy_13_23 (S : St) : Option (Int32 × St) :=
  (lp_X11_copy_13_23_2 4000 0 S).bind fun q1 =>
    some (0, q1)
set_option maxRecDepth 20000 in
set_option maxHeartbeats 4000000 in
theorem e_X11_copy_13_23 (d : Nat) (S : St) (hs : List Hr) (v : Int32 × St) (hr : r_X11_copy_13_23 S = some v) (P : Option Value → Hp → Prop) (h : P none (st v.2 hs)) : Ev (d + 1) ix_X11_copy 0 0 [.ref 13, .ref 23] (st S hs) P := by
  refine Ev.intro (M := mi_X11_copy) rfl (Nat.le_of_ble_eq_true rfl) ?_
  unfold r_X11_copy_13_23 at hr
  refine Wp.stepsG 2 (fun cal X P' hk hX hP => ?_)
  show X (2, [some (.ref 13), some (.ref 23), some (.int 0)], [], st S hs, 0, 0)
  refine hX _ ?_
  clear hP hX hk P' X cal
  obtain ⟨q1, hq1, hr⟩ := bd_some hr
  refine (e_lp_X11_copy_13_23_2 d hs P _ 0 S q1 hq1 ?_)
  have hr := Option.some.inj hr
  subst hr
  refine Wp.stepsG 1 (fun cal X P' hk hX hP => ?_)
  exact hP _ _ h
def lp_X11_copy_14_24_2 : Nat → Int32 → St → Option (St)
  | 0, _, _ => none
  | n + 1, v2, S =>
    if 24 ≤ v2 then
      some S
    else
      if 24 ≤ v2 then
        some S
      else
        gd (¬ (v2 < 0 ∨ 24 ≤ v2.toNatClampNeg)) (
          gd (¬ (v2 < 0 ∨ 24 ≤ v2.toNatClampNeg)) (
            lp_X11_copy_14_24_2 n (v2 + 1) (sA S 24 (upd (S.1 24) v2.toNatClampNeg ((S.1 14) v2.toNatClampNeg)))))
set_option maxRecDepth 20000 in
set_option maxHeartbeats 4000000 in
theorem e_lp_X11_copy_14_24_2 (d : Nat) (hs : List Hr) (P : Option Value → Hp → Prop) : ∀ (n : Nat) (v2 : Int32) (S : St) (q : St), lp_X11_copy_14_24_2 n v2 S = some q → (WM mi_X11_copy (d + 0) P 26 [some (.ref 14), some (.ref 24), none] [] (st q hs)) → WM mi_X11_copy (d + 0) P 2 [some (.ref 14), some (.ref 24), some (.int v2)] [] (st S hs) := by
  intro n
  induction n with
  | zero =>
    intro v2 S q hl
    cases hl
  | succ n ih =>
    intro v2 S q hl ct
    rw [lp_X11_copy_14_24_2] at hl
    refine Wp.stepsG 4 (fun cal X P' hk hX hP => ?_)
    show (24 ≤ v2 → X (26, [some (.ref 14), some (.ref 24), some (.int v2)], [], st S hs, 0, 0)) ∧ (¬ 24 ≤ v2 → X (8, [some (.ref 14), some (.ref 24), some (.int v2)], [], st S hs, 0, 0))
    refine ⟨fun hc => hX _ ?_, fun hc => hX _ ?_⟩
    · clear hP hX hk P' X cal
      rw [if_pos hc] at hl
      have hl := Option.some.inj hl
      subst hl
      exact Wp.weak (leL.k (leL.k (leL.n leL.z))) (ct)
    · clear hP hX hk P' X cal
      rw [if_neg hc] at hl
      refine Wp.stepsG 4 (fun cal X P' hk hX hP => ?_)
      show (24 ≤ v2 → X (26, [some (.ref 14), some (.ref 24), some (.int v2)], [], st S hs, 0, 0)) ∧ (¬ 24 ≤ v2 → X (14, [some (.ref 14), some (.ref 24), some (.int v2)], [], st S hs, 0, 0))
      refine ⟨fun hc => hX _ ?_, fun hc => hX _ ?_⟩
      · clear hP hX hk P' X cal
        rw [if_pos hc] at hl
        have hl := Option.some.inj hl
        subst hl
        exact Wp.weak (leL.k (leL.k (leL.n leL.z))) (ct)
      · clear hP hX hk P' X cal
        rw [if_neg hc] at hl
        refine Wp.stepsG 5 (fun cal X P' hk hX hP => ?_)
        show vp_in v2 24 ∧ X (19, [some (.ref 14), some (.ref 24), some (.int v2)], [.int ((S.1 14) v2.toNatClampNeg), .int v2, .ref 24], st S hs, 0, 0)
        obtain ⟨hg, hl⟩ := gd_some hl
        refine ⟨hg, hX _ ?_⟩
        clear hP hX hk P' X cal
        refine Wp.stepsG 1 (fun cal X P' hk hX hP => ?_)
        show vp_in v2 24 ∧ X (20, [some (.ref 14), some (.ref 24), some (.int v2)], [], st (sA S 24 (upd (S.1 24) v2.toNatClampNeg ((S.1 14) v2.toNatClampNeg))) hs, 0, 0)
        obtain ⟨hg, hl⟩ := gd_some hl
        refine ⟨hg, hX _ ?_⟩
        clear hP hX hk P' X cal
        refine Wp.stepsG 2 (fun cal X P' hk hX hP => ?_)
        show X (2, [some (.ref 14), some (.ref 24), some (.int (v2 + 1))], [], st (sA S 24 (upd (S.1 24) v2.toNatClampNeg ((S.1 14) v2.toNatClampNeg))) hs, 0, 0)
        refine hX _ ?_
        exact (ih (v2 + 1) (sA S 24 (upd (S.1 24) v2.toNatClampNeg ((S.1 14) v2.toNatClampNeg))) q hl ct)
def r_X11_copy_14_24 (S : St) : Option (Int32 × St) :=
  (lp_X11_copy_14_24_2 4000 0 S).bind fun q1 =>
    some (0, q1)
set_option maxRecDepth 20000 in
set_option maxHeartbeats 4000000 in
theorem e_X11_copy_14_24 (d : Nat) (S : St) (hs : List Hr) (v : Int32 × St) (hr : r_X11_copy_14_24 S = some v) (P : Option Value → Hp → Prop) (h : P none (st v.2 hs)) : Ev (d + 1) ix_X11_copy 0 0 [.ref 14, .ref 24] (st S hs) P := by
  refine Ev.intro (M := mi_X11_copy) rfl (Nat.le_of_ble_eq_true rfl) ?_
  unfold r_X11_copy_14_24 at hr
  refine Wp.stepsG 2 (fun cal X P' hk hX hP => ?_)
  show X (2, [some (.ref 14), some (.ref 24), some (.int 0)], [], st S hs, 0, 0)
  refine hX _ ?_
  clear hP hX hk P' X cal
  obtain ⟨q1, hq1, hr⟩ := bd_some hr
  refine (e_lp_X11_copy_14_24_2 d hs P _ 0 S q1 hq1 ?_)
  have hr := Option.some.inj hr
  subst hr
  refine Wp.stepsG 1 (fun cal X P' hk hX hP => ?_)
  exact hP _ _ h
def lp_X11_copy_15_25_2 : Nat → Int32 → St → Option (St)
  | 0, _, _ => none
  | n + 1, v2, S =>
    if 6 ≤ v2 then
      some S
    else
      if 6 ≤ v2 then
        some S
      else
        gd (¬ (v2 < 0 ∨ 6 ≤ v2.toNatClampNeg)) (
          gd (¬ (v2 < 0 ∨ 6 ≤ v2.toNatClampNeg)) (
            lp_X11_copy_15_25_2 n (v2 + 1) (sA S 25 (upd (S.1 25) v2.toNatClampNeg ((S.1 15) v2.toNatClampNeg)))))
set_option maxRecDepth 20000 in
set_option maxHeartbeats 4000000 in
theorem e_lp_X11_copy_15_25_2 (d : Nat) (hs : List Hr) (P : Option Value → Hp → Prop) : ∀ (n : Nat) (v2 : Int32) (S : St) (q : St), lp_X11_copy_15_25_2 n v2 S = some q → (WM mi_X11_copy (d + 0) P 26 [some (.ref 15), some (.ref 25), none] [] (st q hs)) → WM mi_X11_copy (d + 0) P 2 [some (.ref 15), some (.ref 25), some (.int v2)] [] (st S hs) := by
  intro n
  induction n with
  | zero =>
    intro v2 S q hl
    cases hl
  | succ n ih =>
    intro v2 S q hl ct
    rw [lp_X11_copy_15_25_2] at hl
    refine Wp.stepsG 4 (fun cal X P' hk hX hP => ?_)
    show (6 ≤ v2 → X (26, [some (.ref 15), some (.ref 25), some (.int v2)], [], st S hs, 0, 0)) ∧ (¬ 6 ≤ v2 → X (8, [some (.ref 15), some (.ref 25), some (.int v2)], [], st S hs, 0, 0))
    refine ⟨fun hc => hX _ ?_, fun hc => hX _ ?_⟩
    · clear hP hX hk P' X cal
      rw [if_pos hc] at hl
      have hl := Option.some.inj hl
      subst hl
      exact Wp.weak (leL.k (leL.k (leL.n leL.z))) (ct)
    · clear hP hX hk P' X cal
      rw [if_neg hc] at hl
      refine Wp.stepsG 4 (fun cal X P' hk hX hP => ?_)
      show (6 ≤ v2 → X (26, [some (.ref 15), some (.ref 25), some (.int v2)], [], st S hs, 0, 0)) ∧ (¬ 6 ≤ v2 → X (14, [some (.ref 15), some (.ref 25), some (.int v2)], [], st S hs, 0, 0))
      refine ⟨fun hc => hX _ ?_, fun hc => hX _ ?_⟩
      · clear hP hX hk P' X cal
        rw [if_pos hc] at hl
        have hl := Option.some.inj hl
        subst hl
        exact Wp.weak (leL.k (leL.k (leL.n leL.z))) (ct)
      · clear hP hX hk P' X cal
        rw [if_neg hc] at hl
        refine Wp.stepsG 5 (fun cal X P' hk hX hP => ?_)
        show vp_in v2 6 ∧ X (19, [some (.ref 15), some (.ref 25), some (.int v2)], [.int ((S.1 15) v2.toNatClampNeg), .int v2, .ref 25], st S hs, 0, 0)
        obtain ⟨hg, hl⟩ := gd_some hl
        refine ⟨hg, hX _ ?_⟩
        clear hP hX hk P' X cal
        refine Wp.stepsG 1 (fun cal X P' hk hX hP => ?_)
        show vp_in v2 6 ∧ X (20, [some (.ref 15), some (.ref 25), some (.int v2)], [], st (sA S 25 (upd (S.1 25) v2.toNatClampNeg ((S.1 15) v2.toNatClampNeg))) hs, 0, 0)
        obtain ⟨hg, hl⟩ := gd_some hl
        refine ⟨hg, hX _ ?_⟩
        clear hP hX hk P' X cal
        refine Wp.stepsG 2 (fun cal X P' hk hX hP => ?_)
        show X (2, [some (.ref 15), some (.ref 25), some (.int (v2 + 1))], [], st (sA S 25 (upd (S.1 25) v2.toNatClampNeg ((S.1 15) v2.toNatClampNeg))) hs, 0, 0)
        refine hX _ ?_
        exact (ih (v2 + 1) (sA S 25 (upd (S.1 25) v2.toNatClampNeg ((S.1 15) v2.toNatClampNeg))) q hl ct)
def r_X11_copy_15_25 (S : St) : Option (Int32 × St) :=
  (lp_X11_copy_15_25_2 4000 0 S).bind fun q1 =>
    some (0, q1)
set_option maxRecDepth 20000 in
set_option maxHeartbeats 4000000 in
theorem e_X11_copy_15_25 (d : Nat) (S : St) (hs : List Hr) (v : Int32 × St) (hr : r_X11_copy_15_25 S = some v) (P : Option Value → Hp → Prop) (h : P none (st v.2 hs)) : Ev (d + 1) ix_X11_copy 0 0 [.ref 15, .ref 25] (st S hs) P := by
  refine Ev.intro (M := mi_X11_copy) rfl (Nat.le_of_ble_eq_true rfl) ?_
  unfold r_X11_copy_15_25 at hr
  refine Wp.stepsG 2 (fun cal X P' hk hX hP => ?_)
  show X (2, [some (.ref 15), some (.ref 25), some (.int 0)], [], st S hs, 0, 0)
  refine hX _ ?_
  clear hP hX hk P' X cal
  obtain ⟨q1, hq1, hr⟩ := bd_some hr
  refine (e_lp_X11_copy_15_25_2 d hs P _ 0 S q1 hq1 ?_)
  have hr := Option.some.inj hr
  subst hr
  refine Wp.stepsG 1 (fun cal X P' hk hX hP => ?_)
  exact hP _ _ h
def lp_X11_copy_16_26_2 : Nat → Int32 → St → Option (St)
  | 0, _, _ => none
  | n + 1, v2, S =>
    if 6 ≤ v2 then
      some S
    else
      if 6 ≤ v2 then
        some S
      else
        gd (¬ (v2 < 0 ∨ 6 ≤ v2.toNatClampNeg)) (
          gd (¬ (v2 < 0 ∨ 6 ≤ v2.toNatClampNeg)) (
            lp_X11_copy_16_26_2 n (v2 + 1) (sA S 26 (upd (S.1 26) v2.toNatClampNeg ((S.1 16) v2.toNatClampNeg)))))
set_option maxRecDepth 20000 in
set_option maxHeartbeats 4000000 in
theorem e_lp_X11_copy_16_26_2 (d : Nat) (hs : List Hr) (P : Option Value → Hp → Prop) : ∀ (n : Nat) (v2 : Int32) (S : St) (q : St), lp_X11_copy_16_26_2 n v2 S = some q → (WM mi_X11_copy (d + 0) P 26 [some (.ref 16), some (.ref 26), none] [] (st q hs)) → WM mi_X11_copy (d + 0) P 2 [some (.ref 16), some (.ref 26), some (.int v2)] [] (st S hs) := by
  intro n
  induction n with
  | zero =>
    intro v2 S q hl
    cases hl
  | succ n ih =>
    intro v2 S q hl ct
    rw [lp_X11_copy_16_26_2] at hl
    refine Wp.stepsG 4 (fun cal X P' hk hX hP => ?_)
    show (6 ≤ v2 → X (26, [some (.ref 16), some (.ref 26), some (.int v2)], [], st S hs, 0, 0)) ∧ (¬ 6 ≤ v2 → X (8, [some (.ref 16), some (.ref 26), some (.int v2)], [], st S hs, 0, 0))
    refine ⟨fun hc => hX _ ?_, fun hc => hX _ ?_⟩
    · clear hP hX hk P' X cal
      rw [if_pos hc] at hl
      have hl := Option.some.inj hl
      subst hl
      exact Wp.weak (leL.k (leL.k (leL.n leL.z))) (ct)
    · clear hP hX hk P' X cal
      rw [if_neg hc] at hl
      refine Wp.stepsG 4 (fun cal X P' hk hX hP => ?_)
      show (6 ≤ v2 → X (26, [some (.ref 16), some (.ref 26), some (.int v2)], [], st S hs, 0, 0)) ∧ (¬ 6 ≤ v2 → X (14, [some (.ref 16), some (.ref 26), some (.int v2)], [], st S hs, 0, 0))
      refine ⟨fun hc => hX _ ?_, fun hc => hX _ ?_⟩
      · clear hP hX hk P' X cal
        rw [if_pos hc] at hl
        have hl := Option.some.inj hl
        subst hl
        exact Wp.weak (leL.k (leL.k (leL.n leL.z))) (ct)
      · clear hP hX hk P' X cal
        rw [if_neg hc] at hl
        refine Wp.stepsG 5 (fun cal X P' hk hX hP => ?_)
        show vp_in v2 6 ∧ X (19, [some (.ref 16), some (.ref 26), some (.int v2)], [.int ((S.1 16) v2.toNatClampNeg), .int v2, .ref 26], st S hs, 0, 0)
        obtain ⟨hg, hl⟩ := gd_some hl
        refine ⟨hg, hX _ ?_⟩
        clear hP hX hk P' X cal
        refine Wp.stepsG 1 (fun cal X P' hk hX hP => ?_)
        show vp_in v2 6 ∧ X (20, [some (.ref 16), some (.ref 26), some (.int v2)], [], st (sA S 26 (upd (S.1 26) v2.toNatClampNeg ((S.1 16) v2.toNatClampNeg))) hs, 0, 0)
        obtain ⟨hg, hl⟩ := gd_some hl
        refine ⟨hg, hX _ ?_⟩
        clear hP hX hk P' X cal
        refine Wp.stepsG 2 (fun cal X P' hk hX hP => ?_)
        show X (2, [some (.ref 16), some (.ref 26), some (.int (v2 + 1))], [], st (sA S 26 (upd (S.1 26) v2.toNatClampNeg ((S.1 16) v2.toNatClampNeg))) hs, 0, 0)
        refine hX _ ?_
        exact (ih (v2 + 1) (sA S 26 (upd (S.1 26) v2.toNatClampNeg ((S.1 16) v2.toNatClampNeg))) q hl ct)
def r_X11_copy_16_26 (S : St) : Option (Int32 × St) :=
  (lp_X11_copy_16_26_2 4000 0 S).bind fun q1 =>
    some (0, q1)
set_option maxRecDepth 20000 in
set_option maxHeartbeats 4000000 in
theorem e_X11_copy_16_26 (d : Nat) (S : St) (hs : List Hr) (v : Int32 × St) (hr : r_X11_copy_16_26 S = some v) (P : Option Value → Hp → Prop) (h : P none (st v.2 hs)) : Ev (d + 1) ix_X11_copy 0 0 [.ref 16, .ref 26] (st S hs) P := by
  refine Ev.intro (M := mi_X11_copy) rfl (Nat.le_of_ble_eq_true rfl) ?_
  unfold r_X11_copy_16_26 at hr
  refine Wp.stepsG 2 (fun cal X P' hk hX hP => ?_)
  show X (2, [some (.ref 16), some (.ref 26), some (.int 0)], [], st S hs, 0, 0)
  refine hX _ ?_
  clear hP hX hk P' X cal
  obtain ⟨q1, hq1, hr⟩ := bd_some hr
  refine (e_lp_X11_copy_16_26_2 d hs P _ 0 S q1 hq1 ?_)
  have hr := Option.some.inj hr
  subst hr
  refine Wp.stepsG 1 (fun cal X P' hk hX hP => ?_)
  exact hP _ _ h
def lp_X11_copy_17_27_2 : Nat → Int32 → St → Option (St)
  | 0, _, _ => none
  | n + 1, v2, S =>
    if 10 ≤ v2 then
      some S
    else
      if 10 ≤ v2 then
        some S
      else
        gd (¬ (v2 < 0 ∨ 10 ≤ v2.toNatClampNeg)) (
          gd (¬ (v2 < 0 ∨ 10 ≤ v2.toNatClampNeg)) (
            lp_X11_copy_17_27_2 n (v2 + 1) (sA S 27 (upd (S.1 27) v2.toNatClampNeg ((S.1 17) v2.toNatClampNeg)))))
set_option maxRecDepth 20000 in
set_option maxHeartbeats 4000000 in
theorem e_lp_X11_copy_17_27_2 (d : Nat) (hs : List Hr) (P : Option Value → Hp → Prop) : ∀ (n : Nat) (v2 : Int32) (S : St) (q : St), lp_X11_copy_17_27_2 n v2 S = some q → (WM mi_X11_copy (d + 0) P 26 [some (.ref 17), some (.ref 27), none] [] (st q hs)) → WM mi_X11_copy (d + 0) P 2 [some (.ref 17), some (.ref 27), some (.int v2)] [] (st S hs) := by
  intro n
  induction n with
  | zero =>
    intro v2 S q hl
    cases hl
  | succ n ih =>
    intro v2 S q hl ct
    rw [lp_X11_copy_17_27_2] at hl
    refine Wp.stepsG 4 (fun cal X P' hk hX hP => ?_)
    show (10 ≤ v2 → X (26, [some (.ref 17), some (.ref 27), some (.int v2)], [], st S hs, 0, 0)) ∧ (¬ 10 ≤ v2 → X (8, [some (.ref 17), some (.ref 27), some (.int v2)], [], st S hs, 0, 0))
    refine ⟨fun hc => hX _ ?_, fun hc => hX _ ?_⟩
    · clear hP hX hk P' X cal
      rw [if_pos hc] at hl
      have hl := Option.some.inj hl
      subst hl
      exact Wp.weak (leL.k (leL.k (leL.n leL.z))) (ct)
    · clear hP hX hk P' X cal
      rw [if_neg hc] at hl
      refine Wp.stepsG 4 (fun cal X P' hk hX hP => ?_)
      show (10 ≤ v2 → X (26, [some (.ref 17), some (.ref 27), some (.int v2)], [], st S hs, 0, 0)) ∧ (¬ 10 ≤ v2 → X (14, [some (.ref 17), some (.ref 27), some (.int v2)], [], st S hs, 0, 0))
      refine ⟨fun hc => hX _ ?_, fun hc => hX _ ?_⟩
      · clear hP hX hk P' X cal
        rw [if_pos hc] at hl
        have hl := Option.some.inj hl
        subst hl
        exact Wp.weak (leL.k (leL.k (leL.n leL.z))) (ct)
      · clear hP hX hk P' X cal
        rw [if_neg hc] at hl
        refine Wp.stepsG 5 (fun cal X P' hk hX hP => ?_)
        show vp_in v2 10 ∧ X (19, [some (.ref 17), some (.ref 27), some (.int v2)], [.int ((S.1 17) v2.toNatClampNeg), .int v2, .ref 27], st S hs, 0, 0)
        obtain ⟨hg, hl⟩ := gd_some hl
        refine ⟨hg, hX _ ?_⟩
        clear hP hX hk P' X cal
        refine Wp.stepsG 1 (fun cal X P' hk hX hP => ?_)
        show vp_in v2 10 ∧ X (20, [some (.ref 17), some (.ref 27), some (.int v2)], [], st (sA S 27 (upd (S.1 27) v2.toNatClampNeg ((S.1 17) v2.toNatClampNeg))) hs, 0, 0)
        obtain ⟨hg, hl⟩ := gd_some hl
        refine ⟨hg, hX _ ?_⟩
        clear hP hX hk P' X cal
        refine Wp.stepsG 2 (fun cal X P' hk hX hP => ?_)
        show X (2, [some (.ref 17), some (.ref 27), some (.int (v2 + 1))], [], st (sA S 27 (upd (S.1 27) v2.toNatClampNeg ((S.1 17) v2.toNatClampNeg))) hs, 0, 0)
        refine hX _ ?_
        exact (ih (v2 + 1) (sA S 27 (upd (S.1 27) v2.toNatClampNeg ((S.1 17) v2.toNatClampNeg))) q hl ct)
def r_X11_copy_17_27 (S : St) : Option (Int32 × St) :=
  (lp_X11_copy_17_27_2 4000 0 S).bind fun q1 =>
    some (0, q1)
set_option maxRecDepth 20000 in
set_option maxHeartbeats 4000000 in
theorem e_X11_copy_17_27 (d : Nat) (S : St) (hs : List Hr) (v : Int32 × St) (hr : r_X11_copy_17_27 S = some v) (P : Option Value → Hp → Prop) (h : P none (st v.2 hs)) : Ev (d + 1) ix_X11_copy 0 0 [.ref 17, .ref 27] (st S hs) P := by
  refine Ev.intro (M := mi_X11_copy) rfl (Nat.le_of_ble_eq_true rfl) ?_
  unfold r_X11_copy_17_27 at hr
  refine Wp.stepsG 2 (fun cal X P' hk hX hP => ?_)
  show X (2, [some (.ref 17), some (.ref 27), some (.int 0)], [], st S hs, 0, 0)
  refine hX _ ?_
  clear hP hX hk P' X cal
  obtain ⟨q1, hq1, hr⟩ := bd_some hr
  refine (e_lp_X11_copy_17_27_2 d hs P _ 0 S q1 hq1 ?_)
  have hr := Option.some.inj hr
  subst hr
  refine Wp.stepsG 1 (fun cal X P' hk hX hP => ?_)
  exact hP _ _ h
def lp_X7_become_18_8_72 (hs : List Hr) : Nat → Int32 → St → Option (St)
  | 0, _, _ => none
  | n + 1, v2, S =>
    if 6 ≤ v2 then
      some S
    else
      if 6 ≤ v2 then
        some S
      else
        gd (¬ (v2 < 0 ∨ 6 ≤ v2.toNatClampNeg)) (
          oH hs (S.2.2 11 v2.toNatClampNeg) (
            gd (¬ (v2 < 0 ∨ 6 ≤ v2.toNatClampNeg)) (
              lp_X7_become_18_8_72 hs n (v2 + 1) (sQ S 21 (va_up (S.2.2 21) v2.toNatClampNeg none)))) (fun zb3 =>
            gd (¬ (v2 < 0 ∨ 6 ≤ v2.toNatClampNeg)) (
              lp_X7_become_18_8_72 hs n (v2 + 1) (sQ S 21 (va_up (S.2.2 21) v2.toNatClampNeg (S.2.2 11 v2.toNatClampNeg))))))
set_option maxRecDepth 20000 in
set_option maxHeartbeats 4000000 in
theorem e_lp_X7_become_18_8_72 (d : Nat) (hs : List Hr) (P : Option Value → Hp → Prop) : ∀ (n : Nat) (v2 : Int32) (S : St) (q : St), lp_X7_become_18_8_72 hs n v2 S = some q → (WM mi_X7_become (d + 1) P 108 [some (.ref 18), some (.ref 8), none] [] (st q hs)) → WM mi_X7_become (d + 1) P 72 [some (.ref 18), some (.ref 8), some (.int v2)] [] (st S hs) := by
  intro n
  induction n with
  | zero =>
    intro v2 S q hl
    cases hl
  | succ n ih =>
    intro v2 S q hl ct
    rw [lp_X7_become_18_8_72] at hl
    refine Wp.stepsG 5 (fun cal X P' hk hX hP => ?_)
    show (6 ≤ v2 → X (108, [some (.ref 18), some (.ref 8), some (.int v2)], [], st S hs, 0, 0)) ∧ (¬ 6 ≤ v2 → X (81, [some (.ref 18), some (.ref 8), some (.int v2)], [], st S hs, 0, 0))
    refine ⟨fun hc => hX _ ?_, fun hc => hX _ ?_⟩
    · clear hP hX hk P' X cal
      rw [if_pos hc] at hl
      have hl := Option.some.inj hl
      subst hl
      exact Wp.weak (leL.k (leL.k (leL.n leL.z))) (ct)
    · clear hP hX hk P' X cal
      rw [if_neg hc] at hl
      refine Wp.stepsG 5 (fun cal X P' hk hX hP => ?_)
      show (6 ≤ v2 → X (108, [some (.ref 18), some (.ref 8), some (.int v2)], [], st S hs, 0, 0)) ∧ (¬ 6 ≤ v2 → X (90, [some (.ref 18), some (.ref 8), some (.int v2)], [], st S hs, 0, 0))
      refine ⟨fun hc => hX _ ?_, fun hc => hX _ ?_⟩
      · clear hP hX hk P' X cal
        rw [if_pos hc] at hl
        have hl := Option.some.inj hl
        subst hl
        exact Wp.weak (leL.k (leL.k (leL.n leL.z))) (ct)
      · clear hP hX hk P' X cal
        rw [if_neg hc] at hl
        refine Wp.stepsG 7 (fun cal X P' hk hX hP => ?_)
        show vp_in v2 6 ∧ X (101, [some (.ref 18), some (.ref 8), some (.int v2)], [va_rf (S.2.2 11 v2.toNatClampNeg), .int v2, .ref 21], st S hs, 0, 0)
        obtain ⟨hg, hl⟩ := gd_some hl
        refine ⟨hg, hX _ ?_⟩
        clear hP hX hk P' X cal
        rcases oH_some hl with ⟨hz, hl⟩ | ⟨b3, zb3, hz, hb3, fb3, hl⟩
        · rw [hz]
          refine Wp.stepsG 1 (fun cal X P' hk hX hP => ?_)
          show vp_in v2 6 ∧ X (102, [some (.ref 18), some (.ref 8), some (.int v2)], [], st (sQ S 21 (va_up (S.2.2 21) v2.toNatClampNeg none)) hs, 0, 0)
          obtain ⟨hg, hl⟩ := gd_some hl
          refine ⟨hg, hX _ ?_⟩
          clear hP hX hk P' X cal
          refine Wp.stepsG 2 (fun cal X P' hk hX hP => ?_)
          show X (72, [some (.ref 18), some (.ref 8), some (.int (v2 + 1))], [], st (sQ S 21 (va_up (S.2.2 21) v2.toNatClampNeg none)) hs, 0, 0)
          refine hX _ ?_
          exact (ih (v2 + 1) (sQ S 21 (va_up (S.2.2 21) v2.toNatClampNeg none)) q hl ct)
        · rw [hz]
          refine Wp.stepsG 1 (fun cal X P' hk hX hP => ?_)
          obtain ⟨hg, hl⟩ := gd_some hl
          refine ⟨hg, kObj_at (hb3 _) (kB_at (aok11 fb3) ?_)⟩
          show X (102, [some (.ref 18), some (.ref 8), some (.int v2)], [], st (sQ S 21 (va_up (S.2.2 21) v2.toNatClampNeg (some b3))) hs, 0, 0)
          rw [← hz]
          refine hX _ ?_
          clear hP hX hk P' X cal
          refine Wp.stepsG 2 (fun cal X P' hk hX hP => ?_)
          show X (72, [some (.ref 18), some (.ref 8), some (.int (v2 + 1))], [], st (sQ S 21 (va_up (S.2.2 21) v2.toNatClampNeg (S.2.2 11 v2.toNatClampNeg))) hs, 0, 0)
          refine hX _ ?_
          exact (ih (v2 + 1) (sQ S 21 (va_up (S.2.2 21) v2.toNatClampNeg (S.2.2 11 v2.toNatClampNeg))) q hl ct)
def r_X7_become_18_8 (S : St) (hs : List Hr) : Option (Int32 × St) :=
  (r_X11_copy_9_19 (sI (sI (sI (sI (sI (sI S 18 0 (S.1 8 0)) 18 1 (S.1 8 1)) 18 2 (S.1 8 2)) 18 3 (S.1 8 3)) 18 4 (S.1 8 4)) 18 5 (S.1 8 5))).bind fun q1 =>
  (r_X11_copy_10_20 q1.2).bind fun q2 =>
  (lp_X7_become_18_8_72 hs 4000 0 q2.2).bind fun q4 =>
    (r_X11_copy_12_22 q4).bind fun q5 =>
    (r_X11_copy_13_23 q5.2).bind fun q6 =>
    (r_X11_copy_14_24 q6.2).bind fun q7 =>
    (r_X11_copy_15_25 q7.2).bind fun q8 =>
    (r_X11_copy_16_26 q8.2).bind fun q9 =>
    (r_X11_copy_17_27 q9.2).bind fun q10 =>
    some (0, q10.2)
set_option maxRecDepth 20000 in
set_option maxHeartbeats 4000000 in
theorem e_X7_become_18_8 (d : Nat) (S : St) (hs : List Hr) (v : Int32 × St) (hr : r_X7_become_18_8 S hs = some v) (P : Option Value → Hp → Prop) (h : P none (st v.2 hs)) : Ev (d + 2) ix_X7_become 0 0 [.ref 18, .ref 8] (st S hs) P := by
  refine Ev.intro (M := mi_X7_become) rfl (Nat.le_of_ble_eq_true rfl) ?_
  unfold r_X7_become_18_8 at hr
  refine Wp.stepsG 29 (fun cal X P' hk hX hP => ?_)
  show kcall cal ix_X11_copy [.ref 9, .ref 19] (st (sI (sI (sI (sI (sI (sI S 18 0 (S.1 8 0)) 18 1 (S.1 8 1)) 18 2 (S.1 8 2)) 18 3 (S.1 8 3)) 18 4 (S.1 8 4)) 18 5 (S.1 8 5)) hs) [] 0 0 (0, 0) (fun v σ' c' m' => X (59, [some (.ref 18), some (.ref 8), none], v.toList ++ [], σ', c', m'))
  obtain ⟨q1, hq1, hr⟩ := bd_some hr
  refine kcall0 rfl (hk _ _ _ _ _ _ (e_X11_copy_9_19 (d + 0) (sI (sI (sI (sI (sI (sI S 18 0 (S.1 8 0)) 18 1 (S.1 8 1)) 18 2 (S.1 8 2)) 18 3 (S.1 8 3)) 18 4 (S.1 8 4)) 18 5 (S.1 8 5)) hs q1 hq1 _ ?_))
  show X (59, [some (.ref 18), some (.ref 8), none], [], st q1.2 hs, 0, 0)
  refine hX _ ?_
  clear hP hX hk P' X cal
  refine Wp.stepsG 5 (fun cal X P' hk hX hP => ?_)
  show kcall cal ix_X11_copy [.ref 10, .ref 20] (st q1.2 hs) [] 0 0 (0, 0) (fun v σ' c' m' => X (70, [some (.ref 18), some (.ref 8), none], v.toList ++ [], σ', c', m'))
  obtain ⟨q2, hq2, hr⟩ := bd_some hr
  refine kcall0 rfl (hk _ _ _ _ _ _ (e_X11_copy_10_20 (d + 0) q1.2 hs q2 hq2 _ ?_))
  show X (70, [some (.ref 18), some (.ref 8), none], [], st q2.2 hs, 0, 0)
  refine hX _ ?_
  clear hP hX hk P' X cal
  refine Wp.stepsG 2 (fun cal X P' hk hX hP => ?_)
  show X (72, [some (.ref 18), some (.ref 8), some (.int 0)], [], st q2.2 hs, 0, 0)
  refine hX _ ?_
  clear hP hX hk P' X cal
  obtain ⟨q4, hq4, hr⟩ := bd_some hr
  refine (e_lp_X7_become_18_8_72 d hs P _ 0 q2.2 q4 hq4 ?_)
  refine Wp.stepsG 5 (fun cal X P' hk hX hP => ?_)
  show kcall cal ix_X11_copy [.ref 12, .ref 22] (st q4 hs) [] 0 0 (0, 0) (fun v σ' c' m' => X (119, [some (.ref 18), some (.ref 8), none], v.toList ++ [], σ', c', m'))
  obtain ⟨q5, hq5, hr⟩ := bd_some hr
  refine kcall0 rfl (hk _ _ _ _ _ _ (e_X11_copy_12_22 (d + 0) q4 hs q5 hq5 _ ?_))
  show X (119, [some (.ref 18), some (.ref 8), none], [], st q5.2 hs, 0, 0)
  refine hX _ ?_
  clear hP hX hk P' X cal
  refine Wp.stepsG 5 (fun cal X P' hk hX hP => ?_)
  show kcall cal ix_X11_copy [.ref 13, .ref 23] (st q5.2 hs) [] 0 0 (0, 0) (fun v σ' c' m' => X (130, [some (.ref 18), some (.ref 8), none], v.toList ++ [], σ', c', m'))
  obtain ⟨q6, hq6, hr⟩ := bd_some hr
  refine kcall0 rfl (hk _ _ _ _ _ _ (e_X11_copy_13_23 (d + 0) q5.2 hs q6 hq6 _ ?_))
  show X (130, [some (.ref 18), some (.ref 8), none], [], st q6.2 hs, 0, 0)
  refine hX _ ?_
  clear hP hX hk P' X cal
  refine Wp.stepsG 5 (fun cal X P' hk hX hP => ?_)
  show kcall cal ix_X11_copy [.ref 14, .ref 24] (st q6.2 hs) [] 0 0 (0, 0) (fun v σ' c' m' => X (141, [some (.ref 18), some (.ref 8), none], v.toList ++ [], σ', c', m'))
  obtain ⟨q7, hq7, hr⟩ := bd_some hr
  refine kcall0 rfl (hk _ _ _ _ _ _ (e_X11_copy_14_24 (d + 0) q6.2 hs q7 hq7 _ ?_))
  show X (141, [some (.ref 18), some (.ref 8), none], [], st q7.2 hs, 0, 0)
  refine hX _ ?_
  clear hP hX hk P' X cal
  refine Wp.stepsG 5 (fun cal X P' hk hX hP => ?_)
  show kcall cal ix_X11_copy [.ref 15, .ref 25] (st q7.2 hs) [] 0 0 (0, 0) (fun v σ' c' m' => X (152, [some (.ref 18), some (.ref 8), none], v.toList ++ [], σ', c', m'))
  obtain ⟨q8, hq8, hr⟩ := bd_some hr
  refine kcall0 rfl (hk _ _ _ _ _ _ (e_X11_copy_15_25 (d + 0) q7.2 hs q8 hq8 _ ?_))
  show X (152, [some (.ref 18), some (.ref 8), none], [], st q8.2 hs, 0, 0)
  refine hX _ ?_
  clear hP hX hk P' X cal
  refine Wp.stepsG 5 (fun cal X P' hk hX hP => ?_)
  show kcall cal ix_X11_copy [.ref 16, .ref 26] (st q8.2 hs) [] 0 0 (0, 0) (fun v σ' c' m' => X (163, [some (.ref 18), some (.ref 8), none], v.toList ++ [], σ', c', m'))
  obtain ⟨q9, hq9, hr⟩ := bd_some hr
  refine kcall0 rfl (hk _ _ _ _ _ _ (e_X11_copy_16_26 (d + 0) q8.2 hs q9 hq9 _ ?_))
  show X (163, [some (.ref 18), some (.ref 8), none], [], st q9.2 hs, 0, 0)
  refine hX _ ?_
  clear hP hX hk P' X cal
  refine Wp.stepsG 5 (fun cal X P' hk hX hP => ?_)
  show kcall cal ix_X11_copy [.ref 17, .ref 27] (st q9.2 hs) [] 0 0 (0, 0) (fun v σ' c' m' => X (174, [some (.ref 18), some (.ref 8), none], v.toList ++ [], σ', c', m'))
  obtain ⟨q10, hq10, hr⟩ := bd_some hr
  refine kcall0 rfl (hk _ _ _ _ _ _ (e_X11_copy_17_27 (d + 0) q9.2 hs q10 hq10 _ ?_))
  show X (174, [some (.ref 18), some (.ref 8), none], [], st q10.2 hs, 0, 0)
  refine hX _ ?_
  clear hP hX hk P' X cal
  have hr := Option.some.inj hr
  subst hr
  refine Wp.stepsG 1 (fun cal X P' hk hX hP => ?_)
  exact hP _ _ h
def r_X11_image (S : St) (hs : List Hr) : Option (Int32 × St) :=
  (r_X7_become_18_8 S hs).bind fun q1 =>
  some (q1.2.1 8 3, sI q1.2 7 2 1)
set_option maxRecDepth 20000 in
set_option maxHeartbeats 4000000 in
theorem e_X11_image (d : Nat) (S : St) (hs : List Hr) (v : Int32 × St) (hr : r_X11_image S hs = some v) (P : Option Value → Hp → Prop) (h : P (some (.int v.1)) (st v.2 hs)) : Ev (d + 3) ix_X11_image 0 0 [.ref 7] (st S hs) P := by
  refine Ev.intro (M := mi_X11_image) rfl (Nat.le_of_ble_eq_true rfl) ?_
  unfold r_X11_image at hr
  refine Wp.stepsG 5 (fun cal X P' hk hX hP => ?_)
  show kcall cal ix_X7_become [.ref 18, .ref 8] (st S hs) [] 0 0 (0, 0) (fun v σ' c' m' => X (11, [some (.ref 7)], v.toList ++ [], σ', c', m'))
  obtain ⟨q1, hq1, hr⟩ := bd_some hr
  refine kcall0 rfl (hk _ _ _ _ _ _ (e_X7_become_18_8 (d + 0) S hs q1 hq1 _ ?_))
  show X (11, [some (.ref 7)], [], st q1.2 hs, 0, 0)
  refine hX _ ?_
  clear hP hX hk P' X cal
  have hr := Option.some.inj hr
  subst hr
  refine Wp.stepsG 7 (fun cal X P' hk hX hP => ?_)
  exact hP _ _ h
def lp_X11_copy_22_12_2 : Nat → Int32 → St → Option (St)
  | 0, _, _ => none
  | n + 1, v2, S =>
    if 48 ≤ v2 then
      some S
    else
      if 48 ≤ v2 then
        some S
      else
        gd (¬ (v2 < 0 ∨ 48 ≤ v2.toNatClampNeg)) (
          gd (¬ (v2 < 0 ∨ 48 ≤ v2.toNatClampNeg)) (
            lp_X11_copy_22_12_2 n (v2 + 1) (sA S 12 (upd (S.1 12) v2.toNatClampNeg ((S.1 22) v2.toNatClampNeg)))))
set_option maxRecDepth 20000 in
set_option maxHeartbeats 4000000 in
theorem e_lp_X11_copy_22_12_2 (d : Nat) (hs : List Hr) (P : Option Value → Hp → Prop) : ∀ (n : Nat) (v2 : Int32) (S : St) (q : St), lp_X11_copy_22_12_2 n v2 S = some q → (WM mi_X11_copy (d + 0) P 26 [some (.ref 22), some (.ref 12), none] [] (st q hs)) → WM mi_X11_copy (d + 0) P 2 [some (.ref 22), some (.ref 12), some (.int v2)] [] (st S hs) := by
  intro n
  induction n with
  | zero =>
    intro v2 S q hl
    cases hl
  | succ n ih =>
    intro v2 S q hl ct
    rw [lp_X11_copy_22_12_2] at hl
    refine Wp.stepsG 4 (fun cal X P' hk hX hP => ?_)
    show (48 ≤ v2 → X (26, [some (.ref 22), some (.ref 12), some (.int v2)], [], st S hs, 0, 0)) ∧ (¬ 48 ≤ v2 → X (8, [some (.ref 22), some (.ref 12), some (.int v2)], [], st S hs, 0, 0))
    refine ⟨fun hc => hX _ ?_, fun hc => hX _ ?_⟩
    · clear hP hX hk P' X cal
      rw [if_pos hc] at hl
      have hl := Option.some.inj hl
      subst hl
      exact Wp.weak (leL.k (leL.k (leL.n leL.z))) (ct)
    · clear hP hX hk P' X cal
      rw [if_neg hc] at hl
      refine Wp.stepsG 4 (fun cal X P' hk hX hP => ?_)
      show (48 ≤ v2 → X (26, [some (.ref 22), some (.ref 12), some (.int v2)], [], st S hs, 0, 0)) ∧ (¬ 48 ≤ v2 → X (14, [some (.ref 22), some (.ref 12), some (.int v2)], [], st S hs, 0, 0))
      refine ⟨fun hc => hX _ ?_, fun hc => hX _ ?_⟩
      · clear hP hX hk P' X cal
        rw [if_pos hc] at hl
        have hl := Option.some.inj hl
        subst hl
        exact Wp.weak (leL.k (leL.k (leL.n leL.z))) (ct)
      · clear hP hX hk P' X cal
        rw [if_neg hc] at hl
        refine Wp.stepsG 5 (fun cal X P' hk hX hP => ?_)
        show vp_in v2 48 ∧ X (19, [some (.ref 22), some (.ref 12), some (.int v2)], [.int ((S.1 22) v2.toNatClampNeg), .int v2, .ref 12], st S hs, 0, 0)
        obtain ⟨hg, hl⟩ := gd_some hl
        refine ⟨hg, hX _ ?_⟩
        clear hP hX hk P' X cal
        refine Wp.stepsG 1 (fun cal X P' hk hX hP => ?_)
        show vp_in v2 48 ∧ X (20, [some (.ref 22), some (.ref 12), some (.int v2)], [], st (sA S 12 (upd (S.1 12) v2.toNatClampNeg ((S.1 22) v2.toNatClampNeg))) hs, 0, 0)
        obtain ⟨hg, hl⟩ := gd_some hl
        refine ⟨hg, hX _ ?_⟩
        clear hP hX hk P' X cal
        refine Wp.stepsG 2 (fun cal X P' hk hX hP => ?_)
        show X (2, [some (.ref 22), some (.ref 12), some (.int (v2 + 1))], [], st (sA S 12 (upd (S.1 12) v2.toNatClampNeg ((S.1 22) v2.toNatClampNeg))) hs, 0, 0)
        refine hX _ ?_
        exact (ih (v2 + 1) (sA S 12 (upd (S.1 12) v2.toNatClampNeg ((S.1 22) v2.toNatClampNeg))) q hl ct)
