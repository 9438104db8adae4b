def lp_X11_nextOrder_100 : Nat → Int32 → Int32 → St → Option (St)
  | 0, _, _, _ => none
  | n + 1, v3, v4, S =>
    if v4 ≤ v3 then
      some S
    else
      (r_X11_swapSeats S v3 v4).bind fun q4 =>
      lp_X11_nextOrder_100 n (v3 + 1) (v4 + (-1)) q4.2
set_option maxRecDepth 20000 in
set_option maxHeartbeats 4000000 in
theorem e_lp_X11_nextOrder_100 (d : Nat) (hs : List Hr) (P : Option Value → Hp → Prop) : ∀ (n : Nat) (v3 : Int32) (v4 : Int32) (S : St) (q : St), lp_X11_nextOrder_100 n v3 v4 S = some q → (WM mi_X11_nextOrder (d + 1) P 122 [some (.ref 7), none, none, none, none] [] (st q hs)) → WM mi_X11_nextOrder (d + 1) P 100 [some (.ref 7), none, none, some (.int v3), some (.int v4)] [] (st S hs) := by
  intro n
  induction n with
  | zero =>
    intro v3 v4 S q hl
    cases hl
  | succ n ih =>
    intro v3 v4 S q hl ct
    rw [lp_X11_nextOrder_100] at hl
    refine Wp.stepsG 3 (fun cal X P' hk hX hP => ?_)
    show (v4 ≤ v3 → X (122, [some (.ref 7), none, none, some (.int v3), some (.int v4)], [], st S hs, 0, 0)) ∧ (¬ v4 ≤ v3 → X (106, [some (.ref 7), none, none, some (.int v3), some (.int v4)], [], st S hs, 0, 0))
    refine ⟨fun hc => hX _ ?_, fun hc => hX _ ?_⟩
    · clear hP hX hk P' X cal
      rw [if_pos hc] at hl
      have hl := Option.some.inj hl
      subst hl
      exact Wp.weak (leL.k (leL.k (leL.k (leL.n (leL.n leL.z))))) (ct)
    · clear hP hX hk P' X cal
      rw [if_neg hc] at hl
      refine Wp.stepsG 4 (fun cal X P' hk hX hP => ?_)
      show kcall cal ix_X11_swapSeats [.ref 7, .int v3, .int v4] (st S hs) [] 0 0 (0, 0) (fun v σ' c' m' => X (113, [some (.ref 7), none, none, some (.int v3), some (.int v4)], v.toList ++ [], σ', c', m'))
      obtain ⟨q4, hq4, hl⟩ := bd_some hl
      refine kcall0 rfl (hk _ _ _ _ _ _ (e_X11_swapSeats (d + 0) S hs v3 v4 q4 hq4 _ ?_))
      show X (113, [some (.ref 7), none, none, some (.int v3), some (.int v4)], [], st q4.2 hs, 0, 0)
      refine hX _ ?_
      clear hP hX hk P' X cal
      refine Wp.stepsG 3 (fun cal X P' hk hX hP => ?_)
      show X (100, [some (.ref 7), none, none, some (.int (v3 + 1)), some (.int (v4 + (-1)))], [], st q4.2 hs, 0, 0)
      refine hX _ ?_
      exact (ih (v3 + 1) (v4 + (-1)) q4.2 q hl ct)
def r_X11_nextOrder (S : St) : Option (Int32 × St) :=
  (lp_X11_nextOrder_10 S 4000 ((S.1 8 3) - 2)).bind fun q1 =>
    if 0 < q1 then
      (lp_X11_nextOrder_53 S q1 4000 ((S.1 8 3) - 1)).bind fun q2 =>
        (r_X11_swapSeats S q1 q2).bind fun q3 =>
        (lp_X11_nextOrder_100 4000 (q1 + 1) ((q3.2.1 8 3) - 1) q3.2).bind fun q5 =>
          some (1, q5)
    else
      some (0, S)
set_option maxRecDepth 20000 in
set_option maxHeartbeats 4000000 in
theorem e_X11_nextOrder (d : Nat) (S : St) (hs : List Hr) (v : Int32 × St) (hr : r_X11_nextOrder S = some v) (P : Option Value → Hp → Prop) (h : P (some (.int v.1)) (st v.2 hs)) : Ev (d + 2) ix_X11_nextOrder 0 0 [.ref 7] (st S hs) P := by
  refine Ev.intro (M := mi_X11_nextOrder) rfl (Nat.le_of_ble_eq_true rfl) ?_
  unfold r_X11_nextOrder at hr
  refine Wp.stepsG 6 (fun cal X P' hk hX hP => ?_)
  show X (10, [some (.ref 7), some (.int ((S.1 8 3) - 2)), none, none, none], [], st S hs, 0, 0)
  refine hX _ ?_
  clear hP hX hk P' X cal
  obtain ⟨q1, hq1, hr⟩ := bd_some hr
  refine (e_lp_X11_nextOrder_10 d hs P S _ ((S.1 8 3) - 2) q1 hq1 ?_)
  refine Wp.stepsG 2 (fun cal X P' hk hX hP => ?_)
  show (0 < q1 → X (43, [some (.ref 7), some (.int q1), none, none, none], [], st S hs, 0, 0)) ∧ (¬ 0 < q1 → X (41, [some (.ref 7), some (.int q1), none, none, none], [], st S hs, 0, 0))
  refine ⟨fun hc => hX _ ?_, fun hc => hX _ ?_⟩
  · clear hP hX hk P' X cal
    rw [if_pos hc] at hr
    refine Wp.stepsG 6 (fun cal X P' hk hX hP => ?_)
    show X (53, [some (.ref 7), some (.int q1), some (.int ((S.1 8 3) - 1)), none, none], [], st S hs, 0, 0)
    refine hX _ ?_
    clear hP hX hk P' X cal
    obtain ⟨q2, hq2, hr⟩ := bd_some hr
    refine (e_lp_X11_nextOrder_53 d hs P S q1 _ ((S.1 8 3) - 1) q2 hq2 ?_)
    refine Wp.stepsG 4 (fun cal X P' hk hX hP => ?_)
    show kcall cal ix_X11_swapSeats [.ref 7, .int q1, .int q2] (st S hs) [] 0 0 (0, 0) (fun v σ' c' m' => X (85, [some (.ref 7), some (.int q1), some (.int q2), none, none], v.toList ++ [], σ', c', m'))
    obtain ⟨q3, hq3, hr⟩ := bd_some hr
    refine kcall0 rfl (hk _ _ _ _ _ _ (e_X11_swapSeats (d + 0) S hs q1 q2 q3 hq3 _ ?_))
    show X (85, [some (.ref 7), some (.int q1), some (.int q2), none, none], [], st q3.2 hs, 0, 0)
    refine hX _ ?_
    clear hP hX hk P' X cal
    refine Wp.stepsG 10 (fun cal X P' hk hX hP => ?_)
    show X (100, [some (.ref 7), some (.int q1), some (.int q2), some (.int (q1 + 1)), some (.int ((q3.2.1 8 3) - 1))], [], st q3.2 hs, 0, 0)
    refine hX _ ?_
    clear hP hX hk P' X cal
    obtain ⟨q5, hq5, hr⟩ := bd_some hr
    refine Wp.weak (leL.k (leL.n (leL.n (leL.k (leL.k leL.z))))) (e_lp_X11_nextOrder_100 d hs P _ (q1 + 1) ((q3.2.1 8 3) - 1) q3.2 q5 hq5 ?_)
    have hr := Option.some.inj hr
    subst hr
    refine Wp.stepsG 2 (fun cal X P' hk hX hP => ?_)
    exact ⟨Or.inr rfl, hP _ _ h⟩
  · clear hP hX hk P' X cal
    rw [if_neg hc] at hr
    have hr := Option.some.inj hr
    subst hr
    refine Wp.stepsG 2 (fun cal X P' hk hX hP => ?_)
    exact ⟨Or.inl rfl, hP _ _ h⟩
def lp_X11_copy_38_39_2 : Nat → Int32 → St → Option (St)
  | 0, _, _ => none
  | n + 1, v2, S =>
    if 6 ≤ v2 then
      some S
    else
      if 6 ≤ v2 then
        some S
      else
        gd (¬ (v2 < 0 ∨ 6 ≤ v2.toNatClampNeg)) (
          gd (¬ (v2 < 0 ∨ 6 ≤ v2.toNatClampNeg)) (
            lp_X11_copy_38_39_2 n (v2 + 1) (sA S 39 (upd (S.1 39) v2.toNatClampNeg ((S.1 38) v2.toNatClampNeg)))))
set_option maxRecDepth 20000 in
set_option maxHeartbeats 4000000 in
theorem e_lp_X11_copy_38_39_2 (d : Nat) (hs : List Hr) (P : Option Value → Hp → Prop) : ∀ (n : Nat) (v2 : Int32) (S : St) (q : St), lp_X11_copy_38_39_2 n v2 S = some q → (WM mi_X11_copy (d + 0) P 26 [some (.ref 38), some (.ref 39), none] [] (st q hs)) → WM mi_X11_copy (d + 0) P 2 [some (.ref 38), some (.ref 39), some (.int v2)] [] (st S hs) := by
  intro n
  induction n with
  | zero =>
    intro v2 S q hl
    cases hl
  | succ n ih =>
    intro v2 S q hl ct
    rw [lp_X11_copy_38_39_2] at hl
    refine Wp.stepsG 4 (fun cal X P' hk hX hP => ?_)
    show (6 ≤ v2 → X (26, [some (.ref 38), some (.ref 39), some (.int v2)], [], st S hs, 0, 0)) ∧ (¬ 6 ≤ v2 → X (8, [some (.ref 38), some (.ref 39), some (.int v2)], [], st S hs, 0, 0))
    refine ⟨fun hc => hX _ ?_, fun hc => hX _ ?_⟩
    · clear hP hX hk P' X cal
      rw [if_pos hc] at hl
      have hl := Option.some.inj hl
      subst hl
      exact Wp.weak (leL.k (leL.k (leL.n leL.z))) (ct)
    · clear hP hX hk P' X cal
      rw [if_neg hc] at hl
      refine Wp.stepsG 4 (fun cal X P' hk hX hP => ?_)
      show (6 ≤ v2 → X (26, [some (.ref 38), some (.ref 39), some (.int v2)], [], st S hs, 0, 0)) ∧ (¬ 6 ≤ v2 → X (14, [some (.ref 38), some (.ref 39), some (.int v2)], [], st S hs, 0, 0))
      refine ⟨fun hc => hX _ ?_, fun hc => hX _ ?_⟩
      · clear hP hX hk P' X cal
        rw [if_pos hc] at hl
        have hl := Option.some.inj hl
        subst hl
        exact Wp.weak (leL.k (leL.k (leL.n leL.z))) (ct)
      · clear hP hX hk P' X cal
        rw [if_neg hc] at hl
        refine Wp.stepsG 5 (fun cal X P' hk hX hP => ?_)
        show vp_in v2 6 ∧ X (19, [some (.ref 38), some (.ref 39), some (.int v2)], [.int ((S.1 38) v2.toNatClampNeg), .int v2, .ref 39], st S hs, 0, 0)
        obtain ⟨hg, hl⟩ := gd_some hl
        refine ⟨hg, hX _ ?_⟩
        clear hP hX hk P' X cal
        refine Wp.stepsG 1 (fun cal X P' hk hX hP => ?_)
        show vp_in v2 6 ∧ X (20, [some (.ref 38), some (.ref 39), some (.int v2)], [], st (sA S 39 (upd (S.1 39) v2.toNatClampNeg ((S.1 38) v2.toNatClampNeg))) hs, 0, 0)
        obtain ⟨hg, hl⟩ := gd_some hl
        refine ⟨hg, hX _ ?_⟩
        clear hP hX hk P' X cal
        refine Wp.stepsG 2 (fun cal X P' hk hX hP => ?_)
        show X (2, [some (.ref 38), some (.ref 39), some (.int (v2 + 1))], [], st (sA S 39 (upd (S.1 39) v2.toNatClampNeg ((S.1 38) v2.toNatClampNeg))) hs, 0, 0)
        refine hX _ ?_
        exact (ih (v2 + 1) (sA S 39 (upd (S.1 39) v2.toNatClampNeg ((S.1 38) v2.toNatClampNeg))) q hl ct)
def r_X11_copy_38_39 (S : St) : Option (Int32 × St) :=
  (lp_X11_copy_38_39_2 4000 0 S).bind fun q1 =>
    some (0, q1)
set_option maxRecDepth 20000 in
set_option maxHeartbeats 4000000 in
theorem e_X11_copy_38_39 (d : Nat) (S : St) (hs : List Hr) (v : Int32 × St) (hr : r_X11_copy_38_39 S = some v) (P : Option Value → Hp → Prop) (h : P none (st v.2 hs)) : Ev (d + 1) ix_X11_copy 0 0 [.ref 38, .ref 39] (st S hs) P := by
  refine Ev.intro (M := mi_X11_copy) rfl (Nat.le_of_ble_eq_true rfl) ?_
  unfold r_X11_copy_38_39 at hr
  refine Wp.stepsG 2 (fun cal X P' hk hX hP => ?_)
  show X (2, [some (.ref 38), some (.ref 39), some (.int 0)], [], st S hs, 0, 0)
  refine hX _ ?_
  clear hP hX hk P' X cal
  obtain ⟨q1, hq1, hr⟩ := bd_some hr
  refine (e_lp_X11_copy_38_39_2 d hs P _ 0 S q1 hq1 ?_)
  have hr := Option.some.inj hr
  subst hr
  refine Wp.stepsG 1 (fun cal X P' hk hX hP => ?_)
  exact hP _ _ h
def lp_X11_findSeats_2 (f1 : Int32) : Nat → Int32 → St → Option (St)
  | 0, _, _ => none
  | n + 1, v2, S =>
    if (S.1 8 3) ≤ v2 then
      some S
    else
      gd (¬ (v2 < 0 ∨ 6 ≤ v2.toNatClampNeg)) (
        lp_X11_findSeats_2 f1 n (v2 + 1) (sA S 38 (upd (S.1 38) v2.toNatClampNeg v2)))
set_option maxRecDepth 20000 in
set_option maxHeartbeats 4000000 in
theorem e_lp_X11_findSeats_2 (d : Nat) (hs : List Hr) (P : Option Value → Hp → Prop) (f1 : Int32) : ∀ (n : Nat) (v2 : Int32) (S : St) (q : St), lp_X11_findSeats_2 f1 n v2 S = some q → (WM mi_X11_findSeats (d + 2) P 26 [some (.ref 7), some (.int f1), none, none, none, none] [] (st q hs)) → WM mi_X11_findSeats (d + 2) P 2 [some (.ref 7), some (.int f1), some (.int v2), none, none, none] [] (st S hs) := by
  intro n
  induction n with
  | zero =>
    intro v2 S q hl
    cases hl
  | succ n ih =>
    intro v2 S q hl ct
    rw [lp_X11_findSeats_2] at hl
    refine Wp.stepsG 5 (fun cal X P' hk hX hP => ?_)
    show ((S.1 8 3) ≤ v2 → X (26, [some (.ref 7), some (.int f1), some (.int v2), none, none, none], [], st S hs, 0, 0)) ∧ (¬ (S.1 8 3) ≤ v2 → X (13, [some (.ref 7), some (.int f1), some (.int v2), none, none, none], [], st S hs, 0, 0))
    refine ⟨fun hc => hX _ ?_, fun hc => hX _ ?_⟩
    · clear hP hX hk P' X cal
      rw [if_pos hc] at hl
      have hl := Option.some.inj hl
      subst hl
      exact Wp.weak (leL.k (leL.k (leL.n (leL.k (leL.k (leL.k leL.z)))))) (ct)
    · clear hP hX hk P' X cal
      rw [if_neg hc] at hl
      refine Wp.stepsG 5 (fun cal X P' hk hX hP => ?_)
      show vp_in v2 6 ∧ X (20, [some (.ref 7), some (.int f1), some (.int v2), none, none, none], [], st (sA S 38 (upd (S.1 38) v2.toNatClampNeg v2)) hs, 0, 0)
      obtain ⟨hg, hl⟩ := gd_some hl
      refine ⟨hg, hX _ ?_⟩
      clear hP hX hk P' X cal
      refine Wp.stepsG 2 (fun cal X P' hk hX hP => ?_)
      show X (2, [some (.ref 7), some (.int f1), some (.int (v2 + 1)), none, none, none], [], st (sA S 38 (upd (S.1 38) v2.toNatClampNeg v2)) hs, 0, 0)
      refine hX _ ?_
      exact (ih (v2 + 1) (sA S 38 (upd (S.1 38) v2.toNatClampNeg v2)) q hl ct)
def lp_X11_findSeats_33 (f1 : Int32) : Nat → Int32 → Int32 → Int32 → St → Option (Int32 × St)
  | 0, _, _, _, _ => none
  | n + 1, v2, v3, v4, S =>
    if 120 ≤ v4 then
      some (v2, S)
    else
      if v3 = 0 then
        some (v2, S)
      else
        (r_X11_servedBy S f1).bind fun q2 =>
        if q2 ≤ v2 then
          (r_X11_nextOrder S).bind fun q3 =>
          lp_X11_findSeats_33 f1 n v2 q3.1 (v4 + 1) q3.2
        else
          (r_X11_copy_38_39 S).bind fun q4 =>
          (r_X11_nextOrder q4.2).bind fun q5 =>
          lp_X11_findSeats_33 f1 n q2 q5.1 (v4 + 1) q5.2
set_option maxRecDepth 20000 in
set_option maxHeartbeats 4000000 in
theorem e_lp_X11_findSeats_33 (d : Nat) (hs : List Hr) (P : Option Value → Hp → Prop) (f1 : Int32) : ∀ (n : Nat) (v2 : Int32) (v3 : Int32) (v4 : Int32) (S : St) (q : Int32 × St), lp_X11_findSeats_33 f1 n v2 v3 v4 S = some q → (WM mi_X11_findSeats (d + 2) P 82 [some (.ref 7), some (.int f1), some (.int q.1), none, none, none] [] (st q.2 hs)) → WM mi_X11_findSeats (d + 2) P 33 [some (.ref 7), some (.int f1), some (.int v2), some (.int v3), some (.int v4), none] [] (st S hs) := by
  intro n
  induction n with
  | zero =>
    intro v2 v3 v4 S q hl
    cases hl
  | succ n ih =>
    intro v2 v3 v4 S q hl ct
    rw [lp_X11_findSeats_33] at hl
    refine Wp.stepsG 3 (fun cal X P' hk hX hP => ?_)
    show (120 ≤ v4 → X (82, [some (.ref 7), some (.int f1), some (.int v2), some (.int v3), some (.int v4), none], [], st S hs, 0, 0)) ∧ (¬ 120 ≤ v4 → X (40, [some (.ref 7), some (.int f1), some (.int v2), some (.int v3), some (.int v4), none], [], st S hs, 0, 0))
    refine ⟨fun hc => hX _ ?_, fun hc => hX _ ?_⟩
    · clear hP hX hk P' X cal
      rw [if_pos hc] at hl
      have hl := Option.some.inj hl
      subst hl
      exact Wp.weak (leL.k (leL.k (leL.k (leL.n (leL.n (leL.k leL.z)))))) (ct)
    · clear hP hX hk P' X cal
      rw [if_neg hc] at hl
      refine Wp.stepsG 2 (fun cal X P' hk hX hP => ?_)
      show (v3 = 0 → X (82, [some (.ref 7), some (.int f1), some (.int v2), some (.int v3), some (.int v4), none], [], st S hs, 0, 0)) ∧ (¬ v3 = 0 → X (44, [some (.ref 7), some (.int f1), some (.int v2), some (.int v3), some (.int v4), none], [], st S hs, 0, 0))
      refine ⟨fun hc => hX _ ?_, fun hc => hX _ ?_⟩
      · clear hP hX hk P' X cal
        rw [if_pos hc] at hl
        have hl := Option.some.inj hl
        subst hl
        exact Wp.weak (leL.k (leL.k (leL.k (leL.n (leL.n (leL.k leL.z)))))) (ct)
      · clear hP hX hk P' X cal
        rw [if_neg hc] at hl
        refine Wp.stepsG 3 (fun cal X P' hk hX hP => ?_)
        show kcall cal ix_X11_servedBy [.ref 7, .int f1] (st S hs) [] 0 0 (0, 0) (fun v σ' c' m' => X (49, [some (.ref 7), some (.int f1), some (.int v2), some (.int v3), some (.int v4), none], v.toList ++ [], σ', c', m'))
        obtain ⟨q2, hq2, hl⟩ := bd_some hl
        refine kcall0 rfl (hk _ _ _ _ _ _ (e_X11_servedBy (d + 0) S hs f1 q2 hq2 _ ?_))
        show X (49, [some (.ref 7), some (.int f1), some (.int v2), some (.int v3), some (.int v4), none], [.int q2], st S hs, 0, 0)
        refine hX _ ?_
        clear hP hX hk P' X cal
        refine Wp.stepsG 4 (fun cal X P' hk hX hP => ?_)
        show (q2 ≤ v2 → X (71, [some (.ref 7), some (.int f1), some (.int v2), some (.int v3), some (.int v4), some (.int q2)], [], st S hs, 0, 0)) ∧ (¬ q2 ≤ v2 → X (57, [some (.ref 7), some (.int f1), some (.int v2), some (.int v3), some (.int v4), some (.int q2)], [], st S hs, 0, 0))
        refine ⟨fun hc => hX _ ?_, fun hc => hX _ ?_⟩
        · clear hP hX hk P' X cal
          rw [if_pos hc] at hl
          refine Wp.stepsG 2 (fun cal X P' hk hX hP => ?_)
          show kcall cal ix_X11_nextOrder [.ref 7] (st S hs) [] 0 0 (0, 0) (fun v σ' c' m' => X (75, [some (.ref 7), some (.int f1), some (.int v2), some (.int v3), some (.int v4), some (.int q2)], v.toList ++ [], σ', c', m'))
          obtain ⟨q3, hq3, hl⟩ := bd_some hl
          refine kcall0 rfl (hk _ _ _ _ _ _ (e_X11_nextOrder (d + 0) S hs q3 hq3 _ ?_))
          show X (75, [some (.ref 7), some (.int f1), some (.int v2), some (.int v3), some (.int v4), some (.int q2)], [.int q3.1], st q3.2 hs, 0, 0)
          refine hX _ ?_
          clear hP hX hk P' X cal
          refine Wp.stepsG 3 (fun cal X P' hk hX hP => ?_)
          show X (33, [some (.ref 7), some (.int f1), some (.int v2), some (.int q3.1), some (.int (v4 + 1)), some (.int q2)], [], st q3.2 hs, 0, 0)
          refine hX _ ?_
          exact Wp.weak (leL.k (leL.k (leL.k (leL.k (leL.k (leL.n leL.z)))))) (ih v2 q3.1 (v4 + 1) q3.2 q hl ct)
        · clear hP hX hk P' X cal
          rw [if_neg hc] at hl
          refine Wp.stepsG 7 (fun cal X P' hk hX hP => ?_)
          show kcall cal ix_X11_copy [.ref 38, .ref 39] (st S hs) [] 0 0 (0, 0) (fun v σ' c' m' => X (71, [some (.ref 7), some (.int f1), some (.int q2), some (.int v3), some (.int v4), some (.int q2)], v.toList ++ [], σ', c', m'))
          obtain ⟨q4, hq4, hl⟩ := bd_some hl
          refine kcall0 rfl (hk _ _ _ _ _ _ (e_X11_copy_38_39 (d + 1) S hs q4 hq4 _ ?_))
          show X (71, [some (.ref 7), some (.int f1), some (.int q2), some (.int v3), some (.int v4), some (.int q2)], [], st q4.2 hs, 0, 0)
          refine hX _ ?_
          clear hP hX hk P' X cal
          refine Wp.stepsG 2 (fun cal X P' hk hX hP => ?_)
          show kcall cal ix_X11_nextOrder [.ref 7] (st q4.2 hs) [] 0 0 (0, 0) (fun v σ' c' m' => X (75, [some (.ref 7), some (.int f1), some (.int q2), some (.int v3), some (.int v4), some (.int q2)], v.toList ++ [], σ', c', m'))
          obtain ⟨q5, hq5, hl⟩ := bd_some hl
          refine kcall0 rfl (hk _ _ _ _ _ _ (e_X11_nextOrder (d + 0) q4.2 hs q5 hq5 _ ?_))
          show X (75, [some (.ref 7), some (.int f1), some (.int q2), some (.int v3), some (.int v4), some (.int q2)], [.int q5.1], st q5.2 hs, 0, 0)
          refine hX _ ?_
          clear hP hX hk P' X cal
          refine Wp.stepsG 3 (fun cal X P' hk hX hP => ?_)
          show X (33, [some (.ref 7), some (.int f1), some (.int q2), some (.int q5.1), some (.int (v4 + 1)), some (.int q2)], [], st q5.2 hs, 0, 0)
          refine hX _ ?_
          exact Wp.weak (leL.k (leL.k (leL.k (leL.k (leL.k (leL.n leL.z)))))) (ih q2 q5.1 (v4 + 1) q5.2 q hl ct)
def r_X11_findSeats (S : St) (a1 : Int32) : Option (Int32 × St) :=
  (lp_X11_findSeats_2 a1 4000 0 S).bind fun q1 =>
    (lp_X11_findSeats_33 a1 4000 (-1) 1 0 q1).bind fun q6 =>
      some (q6.1, q6.2)
set_option maxRecDepth 20000 in
set_option maxHeartbeats 4000000 in
theorem e_X11_findSeats (d : Nat) (S : St) (hs : List Hr) (a1 : Int32) (v : Int32 × St) (hr : r_X11_findSeats S a1 = some v) (P : Option Value → Hp → Prop) (h : P (some (.int v.1)) (st v.2 hs)) : Ev (d + 3) ix_X11_findSeats 0 0 [.ref 7, .int a1] (st S hs) P := by
  refine Ev.intro (M := mi_X11_findSeats) rfl (Nat.le_of_ble_eq_true rfl) ?_
  unfold r_X11_findSeats at hr
  refine Wp.stepsG 2 (fun cal X P' hk hX hP => ?_)
  show X (2, [some (.ref 7), some (.int a1), some (.int 0), none, none, none], [], st S hs, 0, 0)
  refine hX _ ?_
  clear hP hX hk P' X cal
  obtain ⟨q1, hq1, hr⟩ := bd_some hr
  refine (e_lp_X11_findSeats_2 d hs P a1 _ 0 S q1 hq1 ?_)
  refine Wp.stepsG 6 (fun cal X P' hk hX hP => ?_)
  show X (33, [some (.ref 7), some (.int a1), some (.int (-1)), some (.int 1), some (.int 0), none], [], st q1 hs, 0, 0)
  refine hX _ ?_
  clear hP hX hk P' X cal
  obtain ⟨q6, hq6, hr⟩ := bd_some hr
  refine (e_lp_X11_findSeats_33 d hs P a1 _ (-1) 1 0 q1 q6 hq6 ?_)
  have hr := Option.some.inj hr
  subst hr
  refine Wp.stepsG 2 (fun cal X P' hk hX hP => ?_)
  exact hP _ _ h
def r_X11_see (S : St) (a1 : Int32) (a2 : Int32) : Option (Int32 × St) :=
  if a1 = (-1) then
    some (0, sI S 8 4 0)
  else
    if (r_X11_isStory S a1) = 0 then
      some ((-1), S)
    else
      if (r_X11_isTable S a2) = 0 then
        some ((-2), S)
      else
        if (S.1 8 4) < 6 then
          gd (¬ ((S.1 8 4) < 0 ∨ 6 ≤ (S.1 8 4).toNatClampNeg)) (
            gd (¬ ((S.1 8 4) < 0 ∨ 6 ≤ (S.1 8 4).toNatClampNeg)) (
              some ((S.1 8 4) + 1, sI (sA (sA S 15 (upd (S.1 15) (S.1 8 4).toNatClampNeg a1)) 16 (upd (S.1 16) (S.1 8 4).toNatClampNeg a2)) 8 4 ((S.1 8 4) + 1))))
        else
          some ((-4), S)
set_option maxRecDepth 20000 in
set_option maxHeartbeats 4000000 in
theorem e_X11_see (d : Nat) (S : St) (hs : List Hr) (a1 : Int32) (a2 : Int32) (v : Int32 × St) (hr : r_X11_see S a1 a2 = some v) (P : Option Value → Hp → Prop) (h : P (some (.int v.1)) (st v.2 hs)) : Ev (d + 3) ix_X11_see 0 0 [.ref 7, .int a1, .int a2] (st S hs) P := by
  refine Ev.intro (M := mi_X11_see) rfl (Nat.le_of_ble_eq_true rfl) ?_
  unfold r_X11_see at hr
  refine Wp.stepsG 3 (fun cal X P' hk hX hP => ?_)
  show (¬ a1 = (-1) → X (15, [some (.ref 7), some (.int a1), some (.int a2)], [], st S hs, 0, 0)) ∧ (a1 = (-1) → X (5, [some (.ref 7), some (.int a1), some (.int a2)], [], st S hs, 0, 0))
  refine ⟨fun hc => hX _ ?_, fun hc => hX _ ?_⟩
  · clear hP hX hk P' X cal
    rw [if_neg hc] at hr
    refine Wp.stepsG 3 (fun cal X P' hk hX hP => ?_)
    show kcall cal ix_X11_isStory [.ref 7, .int a1] (st S hs) [] 0 0 (0, 0) (fun v σ' c' m' => X (20, [some (.ref 7), some (.int a1), some (.int a2)], v.toList ++ [], σ', c', m'))
    refine kcall0 rfl (hk _ _ _ _ _ _ (e_X11_isStory (d + 0) S hs a1 _ ?_))
    show X (20, [some (.ref 7), some (.int a1), some (.int a2)], [.int (r_X11_isStory S a1)], st S hs, 0, 0)
    refine hX _ ?_
    clear hP hX hk P' X cal
    refine Wp.stepsG 1 (fun cal X P' hk hX hP => ?_)
    show (¬ (r_X11_isStory S a1) = 0 → X (25, [some (.ref 7), some (.int a1), some (.int a2)], [], st S hs, 0, 0)) ∧ ((r_X11_isStory S a1) = 0 → X (23, [some (.ref 7), some (.int a1), some (.int a2)], [], st S hs, 0, 0))
    refine ⟨fun hc => hX _ ?_, fun hc => hX _ ?_⟩
    · clear hP hX hk P' X cal
      rw [if_neg hc] at hr
      refine Wp.stepsG 3 (fun cal X P' hk hX hP => ?_)
      show kcall cal ix_X11_isTable [.ref 7, .int a2] (st S hs) [] 0 0 (0, 0) (fun v σ' c' m' => X (30, [some (.ref 7), some (.int a1), some (.int a2)], v.toList ++ [], σ', c', m'))
      refine kcall0 rfl (hk _ _ _ _ _ _ (e_X11_isTable (d + 0) S hs a2 _ ?_))
      show X (30, [some (.ref 7), some (.int a1), some (.int a2)], [.int (r_X11_isTable S a2)], st S hs, 0, 0)
      refine hX _ ?_
      clear hP hX hk P' X cal
      refine Wp.stepsG 1 (fun cal X P' hk hX hP => ?_)
      show (¬ (r_X11_isTable S a2) = 0 → X (36, [some (.ref 7), some (.int a1), some (.int a2)], [], st S hs, 0, 0)) ∧ ((r_X11_isTable S a2) = 0 → X (33, [some (.ref 7), some (.int a1), some (.int a2)], [], st S hs, 0, 0))
      refine ⟨fun hc => hX _ ?_, fun hc => hX _ ?_⟩
      · clear hP hX hk P' X cal
        rw [if_neg hc] at hr
        refine Wp.stepsG 5 (fun cal X P' hk hX hP => ?_)
        show ((S.1 8 4) < 6 → X (51, [some (.ref 7), some (.int a1), some (.int a2)], [], st S hs, 0, 0)) ∧ (¬ (S.1 8 4) < 6 → X (48, [some (.ref 7), some (.int a1), some (.int a2)], [], st S hs, 0, 0))
        refine ⟨fun hc => hX _ ?_, fun hc => hX _ ?_⟩
        · clear hP hX hk P' X cal
          rw [if_pos hc] at hr
          refine Wp.stepsG 8 (fun cal X P' hk hX hP => ?_)
          show vp_in (S.1 8 4) 6 ∧ X (67, [some (.ref 7), some (.int a1), some (.int a2)], [], st (sA S 15 (upd (S.1 15) (S.1 8 4).toNatClampNeg a1)) hs, 0, 0)
          obtain ⟨hg, hr⟩ := gd_some hr
          refine ⟨hg, hX _ ?_⟩
          clear hP hX hk P' X cal
          refine Wp.stepsG 8 (fun cal X P' hk hX hP => ?_)
          show vp_in (S.1 8 4) 6 ∧ X (83, [some (.ref 7), some (.int a1), some (.int a2)], [], st (sA (sA S 15 (upd (S.1 15) (S.1 8 4).toNatClampNeg a1)) 16 (upd (S.1 16) (S.1 8 4).toNatClampNeg a2)) hs, 0, 0)
          obtain ⟨hg, hr⟩ := gd_some hr
          refine ⟨hg, hX _ ?_⟩
          clear hP hX hk P' X cal
          have hr := Option.some.inj hr
          subst hr
          refine Wp.stepsG 11 (fun cal X P' hk hX hP => ?_)
          exact hP _ _ h
        · clear hP hX hk P' X cal
          rw [if_neg hc] at hr
          have hr := Option.some.inj hr
          subst hr
          refine Wp.stepsG 2 (fun cal X P' hk hX hP => ?_)
          exact hP _ _ h
      · clear hP hX hk P' X cal
        rw [if_pos hc] at hr
        have hr := Option.some.inj hr
        subst hr
        refine Wp.stepsG 2 (fun cal X P' hk hX hP => ?_)
        exact hP _ _ h
    · clear hP hX hk P' X cal
      rw [if_pos hc] at hr
      have hr := Option.some.inj hr
      subst hr
      refine Wp.stepsG 2 (fun cal X P' hk hX hP => ?_)
      exact hP _ _ h
  · clear hP hX hk P' X cal
    rw [if_pos hc] at hr
    have hr := Option.some.inj hr
    subst hr
    refine Wp.stepsG 6 (fun cal X P' hk hX hP => ?_)
    exact hP _ _ h
def lp_X11_partOf_5 (f0 : Int32) (f1 : Int32) (f2 : Int32) : Nat → Int32 → Int32 → Option (Int32)
  | 0, _, _ => none
  | n + 1, v3, v4 =>
    if f1 < v4 then
      some v3
    else
      gd (¬ v4 = 0) (
        if (f0 - f0 / v4 * v4) = 0 then
          gd (¬ v4 = 0) (
            if (f1 - f1 / v4 * v4) = 0 then
              lp_X11_partOf_5 f0 f1 f2 n v4 (v4 + 1)
            else
              lp_X11_partOf_5 f0 f1 f2 n v3 (v4 + 1))
        else
          lp_X11_partOf_5 f0 f1 f2 n v3 (v4 + 1))
set_option maxRecDepth 20000 in
set_option maxHeartbeats 4000000 in
theorem e_lp_X11_partOf_5 (d : Nat) (hs : List Hr) (P : Option Value → Hp → Prop) (S : St) (f0 : Int32) (f1 : Int32) (f2 : Int32) : ∀ (n : Nat) (v3 : Int32) (v4 : Int32) (q : Int32), lp_X11_partOf_5 f0 f1 f2 n v3 v4 = some q → (WM mi_X11_partOf (d + 0) P 34 [some (.int f0), some (.int f1), some (.int f2), some (.int q), none] [] (st S hs)) → WM mi_X11_partOf (d + 0) P 5 [some (.int f0), some (.int f1), some (.int f2), some (.int v3), some (.int v4)] [] (st S hs) := by
  intro n
  induction n with
  | zero =>
    intro v3 v4 q hl
    cases hl
  | succ n ih =>
    intro v3 v4 q hl ct
    rw [lp_X11_partOf_5] at hl
    refine Wp.stepsG 3 (fun cal X P' hk hX hP => ?_)
    show (f1 < v4 → X (34, [some (.int f0), some (.int f1), some (.int f2), some (.int v3), some (.int v4)], [], st S hs, 0, 0)) ∧ (¬ f1 < v4 → X (11, [some (.int f0), some (.int f1), some (.int f2), some (.int v3), some (.int v4)], [], st S hs, 0, 0))
    refine ⟨fun hc => hX _ ?_, fun hc => hX _ ?_⟩
    · clear hP hX hk P' X cal
      rw [if_pos hc] at hl
      have hl := Option.some.inj hl
      subst hl
      exact Wp.weak (leL.k (leL.k (leL.k (leL.k (leL.n leL.z))))) (ct)
    · clear hP hX hk P' X cal
      rw [if_neg hc] at hl
      refine Wp.stepsG 3 (fun cal X P' hk hX hP => ?_)
      show ¬ v4 = 0 ∧ X (15, [some (.int f0), some (.int f1), some (.int f2), some (.int v3), some (.int v4)], [.int (f0 - f0 / v4 * v4)], st S hs, 0, 0)
      obtain ⟨hg, hl⟩ := gd_some hl
      refine ⟨hg, hX _ ?_⟩
      clear hP hX hk P' X cal
      refine Wp.stepsG 1 (fun cal X P' hk hX hP => ?_)
      show (¬ (f0 - f0 / v4 * v4) = 0 → X (28, [some (.int f0), some (.int f1), some (.int f2), some (.int v3), some (.int v4)], [], st S hs, 0, 0)) ∧ ((f0 - f0 / v4 * v4) = 0 → X (18, [some (.int f0), some (.int f1), some (.int f2), some (.int v3), some (.int v4)], [], st S hs, 0, 0))
      refine ⟨fun hc => hX _ ?_, fun hc => hX _ ?_⟩
      · clear hP hX hk P' X cal
        rw [if_neg hc] at hl
        refine Wp.stepsG 2 (fun cal X P' hk hX hP => ?_)
        show X (5, [some (.int f0), some (.int f1), some (.int f2), some (.int v3), some (.int (v4 + 1))], [], st S hs, 0, 0)
        refine hX _ ?_
        exact (ih v3 (v4 + 1) q hl ct)
      · clear hP hX hk P' X cal
        rw [if_pos hc] at hl
        refine Wp.stepsG 3 (fun cal X P' hk hX hP => ?_)
        show ¬ v4 = 0 ∧ X (22, [some (.int f0), some (.int f1), some (.int f2), some (.int v3), some (.int v4)], [.int (f1 - f1 / v4 * v4)], st S hs, 0, 0)
        obtain ⟨hg, hl⟩ := gd_some hl
        refine ⟨hg, hX _ ?_⟩
        clear hP hX hk P' X cal
        refine Wp.stepsG 1 (fun cal X P' hk hX hP => ?_)
        show (¬ (f1 - f1 / v4 * v4) = 0 → X (28, [some (.int f0), some (.int f1), some (.int f2), some (.int v3), some (.int v4)], [], st S hs, 0, 0)) ∧ ((f1 - f1 / v4 * v4) = 0 → X (25, [some (.int f0), some (.int f1), some (.int f2), some (.int v3), some (.int v4)], [], st S hs, 0, 0))
        refine ⟨fun hc => hX _ ?_, fun hc => hX _ ?_⟩
        · clear hP hX hk P' X cal
          rw [if_neg hc] at hl
          refine Wp.stepsG 2 (fun cal X P' hk hX hP => ?_)
          show X (5, [some (.int f0), some (.int f1), some (.int f2), some (.int v3), some (.int (v4 + 1))], [], st S hs, 0, 0)
          refine hX _ ?_
          exact (ih v3 (v4 + 1) q hl ct)
        · clear hP hX hk P' X cal
          rw [if_pos hc] at hl
          refine Wp.stepsG 4 (fun cal X P' hk hX hP => ?_)
          show X (5, [some (.int f0), some (.int f1), some (.int f2), some (.int v4), some (.int (v4 + 1))], [], st S hs, 0, 0)
          refine hX _ ?_
          exact (ih v4 (v4 + 1) q hl ct)
def r_X11_partOf (a1 : Int32) (a2 : Int32) (a3 : Int32) : Option Int32 :=
  (lp_X11_partOf_5 a1 a2 a3 4000 1 2).bind fun q1 =>
    if a3 = 0 then
      gd (¬ q1 = 0) (
        some (a1 / q1))
    else
      gd (¬ q1 = 0) (
        some (a2 / q1))
set_option maxRecDepth 20000 in
set_option maxHeartbeats 4000000 in
theorem e_X11_partOf (d : Nat) (S : St) (hs : List Hr) (a1 : Int32) (a2 : Int32) (a3 : Int32) (v : Int32) (hr : r_X11_partOf a1 a2 a3 = some v) (P : Option Value → Hp → Prop) (h : P (some (.int v)) (st S hs)) : Ev (d + 1) ix_X11_partOf 0 0 [.int a1, .int a2, .int a3] (st S hs) P := by
  refine Ev.intro (M := mi_X11_partOf) rfl (Nat.le_of_ble_eq_true rfl) ?_
  unfold r_X11_partOf at hr
  refine Wp.stepsG 4 (fun cal X P' hk hX hP => ?_)
  show X (5, [some (.int a1), some (.int a2), some (.int a3), some (.int 1), some (.int 2)], [], st S hs, 0, 0)
  refine hX _ ?_
  clear hP hX hk P' X cal
  obtain ⟨q1, hq1, hr⟩ := bd_some hr
  refine (e_lp_X11_partOf_5 d hs P S a1 a2 a3 _ 1 2 q1 hq1 ?_)
  refine Wp.stepsG 2 (fun cal X P' hk hX hP => ?_)
  show (¬ a3 = 0 → X (42, [some (.int a1), some (.int a2), some (.int a3), some (.int q1), none], [], st S hs, 0, 0)) ∧ (a3 = 0 → X (38, [some (.int a1), some (.int a2), some (.int a3), some (.int q1), none], [], st S hs, 0, 0))
  refine ⟨fun hc => hX _ ?_, fun hc => hX _ ?_⟩
  · clear hP hX hk P' X cal
    rw [if_neg hc] at hr
    refine Wp.stepsG 3 (fun cal X P' hk hX hP => ?_)
    show ¬ q1 = 0 ∧ X (45, [some (.int a1), some (.int a2), some (.int a3), some (.int q1), none], [.int (a2 / q1)], st S hs, 0, 0)
    obtain ⟨hg, hr⟩ := gd_some hr
    refine ⟨hg, hX _ ?_⟩
    clear hP hX hk P' X cal
    have hr := Option.some.inj hr
    subst hr
    refine Wp.stepsG 1 (fun cal X P' hk hX hP => ?_)
    exact hP _ _ h
  · clear hP hX hk P' X cal
    rw [if_pos hc] at hr
    refine Wp.stepsG 4 (fun cal X P' hk hX hP => ?_)
    show ¬ q1 = 0 ∧ X (45, [some (.int a1), some (.int a2), some (.int a3), some (.int q1), none], [.int (a1 / q1)], st S hs, 0, 0)
    obtain ⟨hg, hr⟩ := gd_some hr
    refine ⟨hg, hX _ ?_⟩
    clear hP hX hk P' X cal
    have hr := Option.some.inj hr
    subst hr
    refine Wp.stepsG 1 (fun cal X P' hk hX hP => ?_)
    exact hP _ _ h
def r_X11_book (S : St) (a1 : Int32) : Option (Int32 × St) :=
  if a1 = (-1) then
    some (0, sI S 8 5 0)
  else
    if (r_X11_isStory S a1) = 0 then
      some ((-1), S)
    else
      if (S.1 8 5) < 10 then
        gd (¬ ((S.1 8 5) < 0 ∨ 10 ≤ (S.1 8 5).toNatClampNeg)) (
          some ((S.1 8 5) + 1, sI (sA S 17 (upd (S.1 17) (S.1 8 5).toNatClampNeg a1)) 8 5 ((S.1 8 5) + 1)))
      else
        some ((-4), S)
set_option maxRecDepth 20000 in
set_option maxHeartbeats 4000000 in
theorem e_X11_book (d : Nat) (S : St) (hs : List Hr) (a1 : Int32) (v : Int32 × St) (hr : r_X11_book S a1 = some v) (P : Option Value → Hp → Prop) (h : P (some (.int v.1)) (st v.2 hs)) : Ev (d + 3) ix_X11_book 0 0 [.ref 7, .int a1] (st S hs) P := by
  refine Ev.intro (M := mi_X11_book) rfl (Nat.le_of_ble_eq_true rfl) ?_
  unfold r_X11_book at hr
  refine Wp.stepsG 3 (fun cal X P' hk hX hP => ?_)
  show (¬ a1 = (-1) → X (15, [some (.ref 7), some (.int a1)], [], st S hs, 0, 0)) ∧ (a1 = (-1) → X (5, [some (.ref 7), some (.int a1)], [], st S hs, 0, 0))
  refine ⟨fun hc => hX _ ?_, fun hc => hX _ ?_⟩
  · clear hP hX hk P' X cal
    rw [if_neg hc] at hr
    refine Wp.stepsG 3 (fun cal X P' hk hX hP => ?_)
    show kcall cal ix_X11_isStory [.ref 7, .int a1] (st S hs) [] 0 0 (0, 0) (fun v σ' c' m' => X (20, [some (.ref 7), some (.int a1)], v.toList ++ [], σ', c', m'))
    refine kcall0 rfl (hk _ _ _ _ _ _ (e_X11_isStory (d + 0) S hs a1 _ ?_))
    show X (20, [some (.ref 7), some (.int a1)], [.int (r_X11_isStory S a1)], st S hs, 0, 0)
    refine hX _ ?_
    clear hP hX hk P' X cal
    refine Wp.stepsG 1 (fun cal X P' hk hX hP => ?_)
    show (¬ (r_X11_isStory S a1) = 0 → X (25, [some (.ref 7), some (.int a1)], [], st S hs, 0, 0)) ∧ ((r_X11_isStory S a1) = 0 → X (23, [some (.ref 7), some (.int a1)], [], st S hs, 0, 0))
    refine ⟨fun hc => hX _ ?_, fun hc => hX _ ?_⟩
    · clear hP hX hk P' X cal
      rw [if_neg hc] at hr
      refine Wp.stepsG 5 (fun cal X P' hk hX hP => ?_)
      show ((S.1 8 5) < 10 → X (40, [some (.ref 7), some (.int a1)], [], st S hs, 0, 0)) ∧ (¬ (S.1 8 5) < 10 → X (37, [some (.ref 7), some (.int a1)], [], st S hs, 0, 0))
      refine ⟨fun hc => hX _ ?_, fun hc => hX _ ?_⟩
      · clear hP hX hk P' X cal
        rw [if_pos hc] at hr
        refine Wp.stepsG 8 (fun cal X P' hk hX hP => ?_)
        show vp_in (S.1 8 5) 10 ∧ X (56, [some (.ref 7), some (.int a1)], [], st (sA S 17 (upd (S.1 17) (S.1 8 5).toNatClampNeg a1)) hs, 0, 0)
        obtain ⟨hg, hr⟩ := gd_some hr
        refine ⟨hg, hX _ ?_⟩
        clear hP hX hk P' X cal
        have hr := Option.some.inj hr
        subst hr
        refine Wp.stepsG 11 (fun cal X P' hk hX hP => ?_)
        exact hP _ _ h
      · clear hP hX hk P' X cal
        rw [if_neg hc] at hr
        have hr := Option.some.inj hr
        subst hr
        refine Wp.stepsG 2 (fun cal X P' hk hX hP => ?_)
        exact hP _ _ h
    · clear hP hX hk P' X cal
      rw [if_pos hc] at hr
      have hr := Option.some.inj hr
      subst hr
      refine Wp.stepsG 2 (fun cal X P' hk hX hP => ?_)
      exact hP _ _ h
  · clear hP hX hk P' X cal
    rw [if_pos hc] at hr
    have hr := Option.some.inj hr
    subst hr
    refine Wp.stepsG 6 (fun cal X P' hk hX hP => ?_)
    exact hP _ _ h
def r_X11_tapeAt (S : St) (a1 : Int32) : Option (Option Nat) :=
  if (r_X11_within a1 0 5) = 0 then
    some none
  else
    gd (¬ (a1 < 0 ∨ 6 ≤ a1.toNatClampNeg)) (
      some (tpF a1.toNatClampNeg))
theorem c_X11_tapeAt {S : St} {a1 : Int32} {v : Option Nat} (h : r_X11_tapeAt S a1 = some v) : v = none ∨ v = some 64 ∨ v = some 66 ∨ v = some 68 ∨ v = some 70 ∨ v = some 72 ∨ v = some 74 := by
  unfold r_X11_tapeAt at h
  split at h
  · cases h
    exact Or.inl rfl
  · obtain ⟨_, h⟩ := gd_some h
    cases h
    exact tpF_cases _
set_option maxRecDepth 20000 in
set_option maxHeartbeats 4000000 in
theorem e_X11_tapeAt (d : Nat) (S : St) (hs : List Hr) (a1 : Int32) (v : (Option Nat)) (hr : r_X11_tapeAt S a1 = some v) (P : Option Value → Hp → Prop) (h : P (some (va_rf v)) (st S hs)) : Ev (d + 2) ix_X11_tapeAt 0 0 [.ref 7, .int a1] (st S hs) P := by
  refine Ev.intro (M := mi_X11_tapeAt) rfl (Nat.le_of_ble_eq_true rfl) ?_
  unfold r_X11_tapeAt at hr
  refine Wp.stepsG 4 (fun cal X P' hk hX hP => ?_)
  show kcall cal ix_X11_within [.int a1, .int 0, .int 5] (st S hs) [] 0 0 (0, 0) (fun v σ' c' m' => X (6, [some (.ref 7), some (.int a1)], v.toList ++ [], σ', c', m'))
  refine kcall0 rfl (hk _ _ _ _ _ _ (e_X11_within (d + 0) S hs a1 0 5 _ ?_))
  show X (6, [some (.ref 7), some (.int a1)], [.int (r_X11_within a1 0 5)], st S hs, 0, 0)
  refine hX _ ?_
  clear hP hX hk P' X cal
  refine Wp.stepsG 1 (fun cal X P' hk hX hP => ?_)
  show ((r_X11_within a1 0 5) = 0 → X (18, [some (.ref 7), some (.int a1)], [], st S hs, 0, 0)) ∧ (¬ (r_X11_within a1 0 5) = 0 → X (9, [some (.ref 7), some (.int a1)], [], st S hs, 0, 0))
  refine ⟨fun hc => hX _ ?_, fun hc => hX _ ?_⟩
  · clear hP hX hk P' X cal
    rw [if_pos hc] at hr
    have hr := Option.some.inj hr
    subst hr
    refine Wp.stepsG 2 (fun cal X P' hk hX hP => ?_)
    exact hP _ _ h
  · clear hP hX hk P' X cal
    rw [if_neg hc] at hr
    refine Wp.stepsG 4 (fun cal X P' hk hX hP => ?_)
    show vp_in a1 6 ∧ X (15, [some (.ref 7), some (.int a1)], [va_rf (tpF a1.toNatClampNeg)], st S hs, 0, 0)
    obtain ⟨hg, hr⟩ := gd_some hr
    refine ⟨hg, hX _ ?_⟩
    clear hP hX hk P' X cal
    have hr := Option.some.inj hr
    subst hr
    refine Wp.stepsG 2 (fun cal X P' hk hX hP => ?_)
    exact kR_rf (hP _ _ h)
def lp_X11_judge_34 (S : St) (o : Nat) (f2 : Int32) : Nat → Int32 → Option (Nat × Int32)
  | 0, _ => none
  | n + 1, v4 =>
    if (S.1 8 2) ≤ v4 then
      some (2, v4)
    else
      if f2 < 0 then
        some (0, v4)
      else
        if f2 < ((S.1 o 2) - v4) then
          if (S.1 8 3) = 0 then
            gd (¬ ((f2 + v4) < 0 ∨ 60 ≤ (f2 + v4).toNatClampNeg)) (
              if (lg_cmp ((S.2.1 (o + 1)) (f2 + v4).toNatClampNeg) ((0 : Int32).toInt64)) = 0 then
                lp_X11_judge_34 S o f2 n (v4 + 1)
              else
                some (1, v4))
          else
            (r_X11_timesOf S 0 v4).bind fun q2 =>
            gd (¬ ((f2 + v4) < 0 ∨ 60 ≤ (f2 + v4).toNatClampNeg)) (
              if (lg_cmp ((S.2.1 (o + 1)) (f2 + v4).toNatClampNeg) q2.toInt64) = 0 then
                lp_X11_judge_34 S o f2 n (v4 + 1)
              else
                some (1, v4))
        else
          some (0, v4)
set_option maxRecDepth 20000 in
set_option maxHeartbeats 4000000 in
theorem e_lp_X11_judge_34_64 (d : Nat) (hs : List Hr) (P : Option Value → Hp → Prop) (S : St) (f2 : Int32) : ∀ (n : Nat) (v4 : Int32) (q : Nat × Int32), lp_X11_judge_34 S 64 f2 n v4 = some q → (q.1 = 0 → WM mi_X11_judge (d + 2) P 61 [some (.ref 7), none, some (.int f2), some (.ref 64), some (.int q.2), none] [] (st S hs)) ∧ (q.1 = 1 → WM mi_X11_judge (d + 2) P 106 [some (.ref 7), none, some (.int f2), some (.ref 64), some (.int q.2), none] [] (st S hs)) ∧ (q.1 = 2 → WM mi_X11_judge (d + 2) P 115 [some (.ref 7), none, some (.int f2), some (.ref 64), none, none] [] (st S hs)) → WM mi_X11_judge (d + 2) P 34 [some (.ref 7), none, some (.int f2), some (.ref 64), some (.int v4), none] [] (st S hs) := by
  intro n
  induction n with
  | zero =>
    intro v4 q hl
    cases hl
  | succ n ih =>
    intro v4 q hl ct
    rw [lp_X11_judge_34] at hl
    refine Wp.stepsG 5 (fun cal X P' hk hX hP => ?_)
    show ((S.1 8 2) ≤ v4 → X (115, [some (.ref 7), none, some (.int f2), some (.ref 64), some (.int v4), none], [], st S hs, 0, 0)) ∧ (¬ (S.1 8 2) ≤ v4 → X (46, [some (.ref 7), none, some (.int f2), some (.ref 64), some (.int v4), none], [], st S hs, 0, 0))
    refine ⟨fun hc => hX _ ?_, fun hc => hX _ ?_⟩
    · clear hP hX hk P' X cal
      rw [if_pos hc] at hl
      have hl := Option.some.inj hl
      subst hl
      exact Wp.weak (leL.k (leL.k (leL.k (leL.k (leL.n (leL.k leL.z)))))) (ct.2.2 rfl)
    · clear hP hX hk P' X cal
      rw [if_neg hc] at hl
      refine Wp.stepsG 2 (fun cal X P' hk hX hP => ?_)
      show (f2 < 0 → X (61, [some (.ref 7), none, some (.int f2), some (.ref 64), some (.int v4), none], [], st S hs, 0, 0)) ∧ (¬ f2 < 0 → X (50, [some (.ref 7), none, some (.int f2), some (.ref 64), some (.int v4), none], [], st S hs, 0, 0))
      refine ⟨fun hc => hX _ ?_, fun hc => hX _ ?_⟩
      · clear hP hX hk P' X cal
        rw [if_pos hc] at hl
        have hl := Option.some.inj hl
        subst hl
        exact (ct.1 rfl)
      · clear hP hX hk P' X cal
        rw [if_neg hc] at hl
        refine Wp.stepsG 6 (fun cal X P' hk hX hP => ?_)
        show (f2 < ((S.1 64 2) - v4) → X (67, [some (.ref 7), none, some (.int f2), some (.ref 64), some (.int v4), none], [], st S hs, 0, 0)) ∧ (¬ f2 < ((S.1 64 2) - v4) → X (61, [some (.ref 7), none, some (.int f2), some (.ref 64), some (.int v4), none], [], st S hs, 0, 0))
        refine ⟨fun hc => hX _ ?_, fun hc => hX _ ?_⟩
        · clear hP hX hk P' X cal
          rw [if_pos hc] at hl
          refine Wp.stepsG 4 (fun cal X P' hk hX hP => ?_)
          show (¬ (S.1 8 3) = 0 → X (81, [some (.ref 7), none, some (.int f2), some (.ref 64), some (.int v4), none], [], st S hs, 0, 0)) ∧ ((S.1 8 3) = 0 → X (77, [some (.ref 7), none, some (.int f2), some (.ref 64), some (.int v4), none], [], st S hs, 0, 0))
          refine ⟨fun hc => hX _ ?_, fun hc => hX _ ?_⟩
          · clear hP hX hk P' X cal
            rw [if_neg hc] at hl
            refine Wp.stepsG 4 (fun cal X P' hk hX hP => ?_)
            show kcall cal ix_X11_timesOf [.ref 7, .int 0, .int v4] (st S hs) [] 0 0 (0, 0) (fun v σ' c' m' => X (88, [some (.ref 7), none, some (.int f2), some (.ref 64), some (.int v4), none], v.toList ++ [], σ', c', m'))
            obtain ⟨q5, hq5, hl⟩ := bd_some hl
            refine kcall0 rfl (hk _ _ _ _ _ _ (e_X11_timesOf (d + 1) S hs 0 v4 q5 hq5 _ ?_))
            show X (88, [some (.ref 7), none, some (.int f2), some (.ref 64), some (.int v4), none], [.int q5], st S hs, 0, 0)
            refine hX _ ?_
            clear hP hX hk P' X cal
            refine Wp.stepsG 7 (fun cal X P' hk hX hP => ?_)
            show vp_in (f2 + v4) 60 ∧ X (99, [some (.ref 7), none, some (.int f2), some (.ref 64), some (.int v4), some (.int q5)], [.long ((S.2.1 65) (f2 + v4).toNatClampNeg)], st S hs, 0, 0)
            obtain ⟨hg, hl⟩ := gd_some hl
            refine ⟨hg, hX _ ?_⟩
            clear hP hX hk P' X cal
            refine Wp.stepsG 4 (fun cal X P' hk hX hP => ?_)
            show ((lg_cmp ((S.2.1 65) (f2 + v4).toNatClampNeg) q5.toInt64) = 0 → X (109, [some (.ref 7), none, some (.int f2), some (.ref 64), some (.int v4), some (.int q5)], [], st S hs, 0, 0)) ∧ (¬ (lg_cmp ((S.2.1 65) (f2 + v4).toNatClampNeg) q5.toInt64) = 0 → X (106, [some (.ref 7), none, some (.int f2), some (.ref 64), some (.int v4), some (.int q5)], [], st S hs, 0, 0))
            refine ⟨fun hc => hX _ ?_, fun hc => hX _ ?_⟩
            · clear hP hX hk P' X cal
              rw [if_pos hc] at hl
              refine Wp.stepsG 2 (fun cal X P' hk hX hP => ?_)
              show X (34, [some (.ref 7), none, some (.int f2), some (.ref 64), some (.int (v4 + 1)), some (.int q5)], [], st S hs, 0, 0)
              refine hX _ ?_
              exact Wp.weak (leL.k (leL.k (leL.k (leL.k (leL.k (leL.n leL.z)))))) (ih (v4 + 1) q hl ct)
            · clear hP hX hk P' X cal
              rw [if_neg hc] at hl
              have hl := Option.some.inj hl
              subst hl
              exact Wp.weak (leL.k (leL.k (leL.k (leL.k (leL.k (leL.n leL.z)))))) (ct.2.1 rfl)
          · clear hP hX hk P' X cal
            rw [if_pos hc] at hl
            refine Wp.stepsG 9 (fun cal X P' hk hX hP => ?_)
            show vp_in (f2 + v4) 60 ∧ X (99, [some (.ref 7), none, some (.int f2), some (.ref 64), some (.int v4), some (.int 0)], [.long ((S.2.1 65) (f2 + v4).toNatClampNeg)], st S hs, 0, 0)
            obtain ⟨hg, hl⟩ := gd_some hl
            refine ⟨hg, hX _ ?_⟩
            clear hP hX hk P' X cal
            refine Wp.stepsG 4 (fun cal X P' hk hX hP => ?_)
            show ((lg_cmp ((S.2.1 65) (f2 + v4).toNatClampNeg) ((0 : Int32).toInt64)) = 0 → X (109, [some (.ref 7), none, some (.int f2), some (.ref 64), some (.int v4), some (.int 0)], [], st S hs, 0, 0)) ∧ (¬ (lg_cmp ((S.2.1 65) (f2 + v4).toNatClampNeg) ((0 : Int32).toInt64)) = 0 → X (106, [some (.ref 7), none, some (.int f2), some (.ref 64), some (.int v4), some (.int 0)], [], st S hs, 0, 0))
            refine ⟨fun hc => hX _ ?_, fun hc => hX _ ?_⟩
            · clear hP hX hk P' X cal
              rw [if_pos hc] at hl
              refine Wp.stepsG 2 (fun cal X P' hk hX hP => ?_)
              show X (34, [some (.ref 7), none, some (.int f2), some (.ref 64), some (.int (v4 + 1)), some (.int 0)], [], st S hs, 0, 0)
              refine hX _ ?_
              exact Wp.weak (leL.k (leL.k (leL.k (leL.k (leL.k (leL.n leL.z)))))) (ih (v4 + 1) q hl ct)
            · clear hP hX hk P' X cal
              rw [if_neg hc] at hl
              have hl := Option.some.inj hl
              subst hl
              exact Wp.weak (leL.k (leL.k (leL.k (leL.k (leL.k (leL.n leL.z)))))) (ct.2.1 rfl)
        · clear hP hX hk P' X cal
          rw [if_neg hc] at hl
          have hl := Option.some.inj hl
          subst hl
          exact (ct.1 rfl)
set_option maxRecDepth 20000 in
set_option maxHeartbeats 4000000 in
theorem e_lp_X11_judge_34_66 (d : Nat) (hs : List Hr) (P : Option Value → Hp → Prop) (S : St) (f2 : Int32) : ∀ (n : Nat) (v4 : Int32) (q : Nat × Int32), lp_X11_judge_34 S 66 f2 n v4 = some q → (q.1 = 0 → WM mi_X11_judge (d + 2) P 61 [some (.ref 7), none, some (.int f2), some (.ref 66), some (.int q.2), none] [] (st S hs)) ∧ (q.1 = 1 → WM mi_X11_judge (d + 2) P 106 [some (.ref 7), none, some (.int f2), some (.ref 66), some (.int q.2), none] [] (st S hs)) ∧ (q.1 = 2 → WM mi_X11_judge (d + 2) P 115 [some (.ref 7), none, some (.int f2), some (.ref 66), none, none] [] (st S hs)) → WM mi_X11_judge (d + 2) P 34 [some (.ref 7), none, some (.int f2), some (.ref 66), some (.int v4), none] [] (st S hs) := by
  intro n
  induction n with
  | zero =>
    intro v4 q hl
    cases hl
  | succ n ih =>
    intro v4 q hl ct
    rw [lp_X11_judge_34] at hl
    refine Wp.stepsG 5 (fun cal X P' hk hX hP => ?_)
    show ((S.1 8 2) ≤ v4 → X (115, [some (.ref 7), none, some (.int f2), some (.ref 66), some (.int v4), none], [], st S hs, 0, 0)) ∧ (¬ (S.1 8 2) ≤ v4 → X (46, [some (.ref 7), none, some (.int f2), some (.ref 66), some (.int v4), none], [], st S hs, 0, 0))
    refine ⟨fun hc => hX _ ?_, fun hc => hX _ ?_⟩
    · clear hP hX hk P' X cal
      rw [if_pos hc] at hl
      have hl := Option.some.inj hl
      subst hl
      exact Wp.weak (leL.k (leL.k (leL.k (leL.k (leL.n (leL.k leL.z)))))) (ct.2.2 rfl)
    · clear hP hX hk P' X cal
      rw [if_neg hc] at hl
      refine Wp.stepsG 2 (fun cal X P' hk hX hP => ?_)
      show (f2 < 0 → X (61, [some (.ref 7), none, some (.int f2), some (.ref 66), some (.int v4), none], [], st S hs, 0, 0)) ∧ (¬ f2 < 0 → X (50, [some (.ref 7), none, some (.int f2), some (.ref 66), some (.int v4), none], [], st S hs, 0, 0))
      refine ⟨fun hc => hX _ ?_, fun hc => hX _ ?_⟩
      · clear hP hX hk P' X cal
        rw [if_pos hc] at hl
        have hl := Option.some.inj hl
        subst hl
        exact (ct.1 rfl)
      · clear hP hX hk P' X cal
        rw [if_neg hc] at hl
        refine Wp.stepsG 6 (fun cal X P' hk hX hP => ?_)
        show (f2 < ((S.1 66 2) - v4) → X (67, [some (.ref 7), none, some (.int f2), some (.ref 66), some (.int v4), none], [], st S hs, 0, 0)) ∧ (¬ f2 < ((S.1 66 2) - v4) → X (61, [some (.ref 7), none, some (.int f2), some (.ref 66), some (.int v4), none], [], st S hs, 0, 0))
        refine ⟨fun hc => hX _ ?_, fun hc => hX _ ?_⟩
        · clear hP hX hk P' X cal
          rw [if_pos hc] at hl
          refine Wp.stepsG 4 (fun cal X P' hk hX hP => ?_)
          show (¬ (S.1 8 3) = 0 → X (81, [some (.ref 7), none, some (.int f2), some (.ref 66), some (.int v4), none], [], st S hs, 0, 0)) ∧ ((S.1 8 3) = 0 → X (77, [some (.ref 7), none, some (.int f2), some (.ref 66), some (.int v4), none], [], st S hs, 0, 0))
          refine ⟨fun hc => hX _ ?_, fun hc => hX _ ?_⟩
          · clear hP hX hk P' X cal
            rw [if_neg hc] at hl
            refine Wp.stepsG 4 (fun cal X P' hk hX hP => ?_)
            show kcall cal ix_X11_timesOf [.ref 7, .int 0, .int v4] (st S hs) [] 0 0 (0, 0) (fun v σ' c' m' => X (88, [some (.ref 7), none, some (.int f2), some (.ref 66), some (.int v4), none], v.toList ++ [], σ', c', m'))
            obtain ⟨q8, hq8, hl⟩ := bd_some hl
            refine kcall0 rfl (hk _ _ _ _ _ _ (e_X11_timesOf (d + 1) S hs 0 v4 q8 hq8 _ ?_))
            show X (88, [some (.ref 7), none, some (.int f2), some (.ref 66), some (.int v4), none], [.int q8], st S hs, 0, 0)
            refine hX _ ?_
            clear hP hX hk P' X cal
            refine Wp.stepsG 7 (fun cal X P' hk hX hP => ?_)
            show vp_in (f2 + v4) 60 ∧ X (99, [some (.ref 7), none, some (.int f2), some (.ref 66), some (.int v4), some (.int q8)], [.long ((S.2.1 67) (f2 + v4).toNatClampNeg)], st S hs, 0, 0)
            obtain ⟨hg, hl⟩ := gd_some hl
            refine ⟨hg, hX _ ?_⟩
            clear hP hX hk P' X cal
            refine Wp.stepsG 4 (fun cal X P' hk hX hP => ?_)
            show ((lg_cmp ((S.2.1 67) (f2 + v4).toNatClampNeg) q8.toInt64) = 0 → X (109, [some (.ref 7), none, some (.int f2), some (.ref 66), some (.int v4), some (.int q8)], [], st S hs, 0, 0)) ∧ (¬ (lg_cmp ((S.2.1 67) (f2 + v4).toNatClampNeg) q8.toInt64) = 0 → X (106, [some (.ref 7), none, some (.int f2), some (.ref 66), some (.int v4), some (.int q8)], [], st S hs, 0, 0))
            refine ⟨fun hc => hX _ ?_, fun hc => hX _ ?_⟩
            · clear hP hX hk P' X cal
              rw [if_pos hc] at hl
              refine Wp.stepsG 2 (fun cal X P' hk hX hP => ?_)
              show X (34, [some (.ref 7), none, some (.int f2), some (.ref 66), some (.int (v4 + 1)), some (.int q8)], [], st S hs, 0, 0)
              refine hX _ ?_
              exact Wp.weak (leL.k (leL.k (leL.k (leL.k (leL.k (leL.n leL.z)))))) (ih (v4 + 1) q hl ct)
            · clear hP hX hk P' X cal
              rw [if_neg hc] at hl
              have hl := Option.some.inj hl
              subst hl
              exact Wp.weak (leL.k (leL.k (leL.k (leL.k (leL.k (leL.n leL.z)))))) (ct.2.1 rfl)
          · clear hP hX hk P' X cal
            rw [if_pos hc] at hl
            refine Wp.stepsG 9 (fun cal X P' hk hX hP => ?_)
            show vp_in (f2 + v4) 60 ∧ X (99, [some (.ref 7), none, some (.int f2), some (.ref 66), some (.int v4), some (.int 0)], [.long ((S.2.1 67) (f2 + v4).toNatClampNeg)], st S hs, 0, 0)
            obtain ⟨hg, hl⟩ := gd_some hl
            refine ⟨hg, hX _ ?_⟩
            clear hP hX hk P' X cal
            refine Wp.stepsG 4 (fun cal X P' hk hX hP => ?_)
            show ((lg_cmp ((S.2.1 67) (f2 + v4).toNatClampNeg) ((0 : Int32).toInt64)) = 0 → X (109, [some (.ref 7), none, some (.int f2), some (.ref 66), some (.int v4), some (.int 0)], [], st S hs, 0, 0)) ∧ (¬ (lg_cmp ((S.2.1 67) (f2 + v4).toNatClampNeg) ((0 : Int32).toInt64)) = 0 → X (106, [some (.ref 7), none, some (.int f2), some (.ref 66), some (.int v4), some (.int 0)], [], st S hs, 0, 0))
            refine ⟨fun hc => hX _ ?_, fun hc => hX _ ?_⟩
            · clear hP hX hk P' X cal
              rw [if_pos hc] at hl
              refine Wp.stepsG 2 (fun cal X P' hk hX hP => ?_)
              show X (34, [some (.ref 7), none, some (.int f2), some (.ref 66), some (.int (v4 + 1)), some (.int 0)], [], st S hs, 0, 0)
              refine hX _ ?_
              exact Wp.weak (leL.k (leL.k (leL.k (leL.k (leL.k (leL.n leL.z)))))) (ih (v4 + 1) q hl ct)
            · clear hP hX hk P' X cal
              rw [if_neg hc] at hl
              have hl := Option.some.inj hl
              subst hl
              exact Wp.weak (leL.k (leL.k (leL.k (leL.k (leL.k (leL.n leL.z)))))) (ct.2.1 rfl)
        · clear hP hX hk P' X cal
          rw [if_neg hc] at hl
          have hl := Option.some.inj hl
          subst hl
          exact (ct.1 rfl)
set_option maxRecDepth 20000 in
set_option maxHeartbeats 4000000 in
theorem e_lp_X11_judge_34_68 (d : Nat) (hs : List Hr) (P : Option Value → Hp → Prop) (S : St) (f2 : Int32) : ∀ (n : Nat) (v4 : Int32) (q : Nat × Int32), lp_X11_judge_34 S 68 f2 n v4 = some q → (q.1 = 0 → WM mi_X11_judge (d + 2) P 61 [some (.ref 7), none, some (.int f2), some (.ref 68), some (.int q.2), none] [] (st S hs)) ∧ (q.1 = 1 → WM mi_X11_judge (d + 2) P 106 [some (.ref 7), none, some (.int f2), some (.ref 68), some (.int q.2), none] [] (st S hs)) ∧ (q.1 = 2 → WM mi_X11_judge (d + 2) P 115 [some (.ref 7), none, some (.int f2), some (.ref 68), none, none] [] (st S hs)) → WM mi_X11_judge (d + 2) P 34 [some (.ref 7), none, some (.int f2), some (.ref 68), some (.int v4), none] [] (st S hs) := by
  intro n
  induction n with
  | zero =>
    intro v4 q hl
    cases hl
  | succ n ih =>
    intro v4 q hl ct
    rw [lp_X11_judge_34] at hl
    refine Wp.stepsG 5 (fun cal X P' hk hX hP => ?_)
    show ((S.1 8 2) ≤ v4 → X (115, [some (.ref 7), none, some (.int f2), some (.ref 68), some (.int v4), none], [], st S hs, 0, 0)) ∧ (¬ (S.1 8 2) ≤ v4 → X (46, [some (.ref 7), none, some (.int f2), some (.ref 68), some (.int v4), none], [], st S hs, 0, 0))
    refine ⟨fun hc => hX _ ?_, fun hc => hX _ ?_⟩
    · clear hP hX hk P' X cal
      rw [if_pos hc] at hl
      have hl := Option.some.inj hl
      subst hl
      exact Wp.weak (leL.k (leL.k (leL.k (leL.k (leL.n (leL.k leL.z)))))) (ct.2.2 rfl)
    · clear hP hX hk P' X cal
      rw [if_neg hc] at hl
      refine Wp.stepsG 2 (fun cal X P' hk hX hP => ?_)
      show (f2 < 0 → X (61, [some (.ref 7), none, some (.int f2), some (.ref 68), some (.int v4), none], [], st S hs, 0, 0)) ∧ (¬ f2 < 0 → X (50, [some (.ref 7), none, some (.int f2), some (.ref 68), some (.int v4), none], [], st S hs, 0, 0))
      refine ⟨fun hc => hX _ ?_, fun hc => hX _ ?_⟩
      · clear hP hX hk P' X cal
        rw [if_pos hc] at hl
        have hl := Option.some.inj hl
        subst hl
        exact (ct.1 rfl)
      · clear hP hX hk P' X cal
        rw [if_neg hc] at hl
        refine Wp.stepsG 6 (fun cal X P' hk hX hP => ?_)
        show (f2 < ((S.1 68 2) - v4) → X (67, [some (.ref 7), none, some (.int f2), some (.ref 68), some (.int v4), none], [], st S hs, 0, 0)) ∧ (¬ f2 < ((S.1 68 2) - v4) → X (61, [some (.ref 7), none, some (.int f2), some (.ref 68), some (.int v4), none], [], st S hs, 0, 0))
        refine ⟨fun hc => hX _ ?_, fun hc => hX _ ?_⟩
        · clear hP hX hk P' X cal
          rw [if_pos hc] at hl
          refine Wp.stepsG 4 (fun cal X P' hk hX hP => ?_)
          show (¬ (S.1 8 3) = 0 → X (81, [some (.ref 7), none, some (.int f2), some (.ref 68), some (.int v4), none], [], st S hs, 0, 0)) ∧ ((S.1 8 3) = 0 → X (77, [some (.ref 7), none, some (.int f2), some (.ref 68), some (.int v4), none], [], st S hs, 0, 0))
          refine ⟨fun hc => hX _ ?_, fun hc => hX _ ?_⟩
          · clear hP hX hk P' X cal
            rw [if_neg hc] at hl
            refine Wp.stepsG 4 (fun cal X P' hk hX hP => ?_)
            show kcall cal ix_X11_timesOf [.ref 7, .int 0, .int v4] (st S hs) [] 0 0 (0, 0) (fun v σ' c' m' => X (88, [some (.ref 7), none, some (.int f2), some (.ref 68), some (.int v4), none], v.toList ++ [], σ', c', m'))
            obtain ⟨q11, hq11, hl⟩ := bd_some hl
            refine kcall0 rfl (hk _ _ _ _ _ _ (e_X11_timesOf (d + 1) S hs 0 v4 q11 hq11 _ ?_))
            show X (88, [some (.ref 7), none, some (.int f2), some (.ref 68), some (.int v4), none], [.int q11], st S hs, 0, 0)
            refine hX _ ?_
            clear hP hX hk P' X cal
            refine Wp.stepsG 7 (fun cal X P' hk hX hP => ?_)
            show vp_in (f2 + v4) 60 ∧ X (99, [some (.ref 7), none, some (.int f2), some (.ref 68), some (.int v4), some (.int q11)], [.long ((S.2.1 69) (f2 + v4).toNatClampNeg)], st S hs, 0, 0)
            obtain ⟨hg, hl⟩ := gd_some hl
            refine ⟨hg, hX _ ?_⟩
            clear hP hX hk P' X cal
            refine Wp.stepsG 4 (fun cal X P' hk hX hP => ?_)
            show ((lg_cmp ((S.2.1 69) (f2 + v4).toNatClampNeg) q11.toInt64) = 0 → X (109, [some (.ref 7), none, some (.int f2), some (.ref 68), some (.int v4), some (.int q11)], [], st S hs, 0, 0)) ∧ (¬ (lg_cmp ((S.2.1 69) (f2 + v4).toNatClampNeg) q11.toInt64) = 0 → X (106, [some (.ref 7), none, some (.int f2), some (.ref 68), some (.int v4), some (.int q11)], [], st S hs, 0, 0))
            refine ⟨fun hc => hX _ ?_, fun hc => hX _ ?_⟩
            · clear hP hX hk P' X cal
              rw [if_pos hc] at hl
              refine Wp.stepsG 2 (fun cal X P' hk hX hP => ?_)
              show X (34, [some (.ref 7), none, some (.int f2), some (.ref 68), some (.int (v4 + 1)), some (.int q11)], [], st S hs, 0, 0)
              refine hX _ ?_
              exact Wp.weak (leL.k (leL.k (leL.k (leL.k (leL.k (leL.n leL.z)))))) (ih (v4 + 1) q hl ct)
            · clear hP hX hk P' X cal
              rw [if_neg hc] at hl
              have hl := Option.some.inj hl
              subst hl
              exact Wp.weak (leL.k (leL.k (leL.k (leL.k (leL.k (leL.n leL.z)))))) (ct.2.1 rfl)
          · clear hP hX hk P' X cal
            rw [if_pos hc] at hl
            refine Wp.stepsG 9 (fun cal X P' hk hX hP => ?_)
            show vp_in (f2 + v4) 60 ∧ X (99, [some (.ref 7), none, some (.int f2), some (.ref 68), some (.int v4), some (.int 0)], [.long ((S.2.1 69) (f2 + v4).toNatClampNeg)], st S hs, 0, 0)
            obtain ⟨hg, hl⟩ := gd_some hl
            refine ⟨hg, hX _ ?_⟩
            clear hP hX hk P' X cal
            refine Wp.stepsG 4 (fun cal X P' hk hX hP => ?_)
            show ((lg_cmp ((S.2.1 69) (f2 + v4).toNatClampNeg) ((0 : Int32).toInt64)) = 0 → X (109, [some (.ref 7), none, some (.int f2), some (.ref 68), some (.int v4), some (.int 0)], [], st S hs, 0, 0)) ∧ (¬ (lg_cmp ((S.2.1 69) (f2 + v4).toNatClampNeg) ((0 : Int32).toInt64)) = 0 → X (106, [some (.ref 7), none, some (.int f2), some (.ref 68), some (.int v4), some (.int 0)], [], st S hs, 0, 0))
            refine ⟨fun hc => hX _ ?_, fun hc => hX _ ?_⟩
            · clear hP hX hk P' X cal
              rw [if_pos hc] at hl
              refine Wp.stepsG 2 (fun cal X P' hk hX hP => ?_)
              show X (34, [some (.ref 7), none, some (.int f2), some (.ref 68), some (.int (v4 + 1)), some (.int 0)], [], st S hs, 0, 0)
              refine hX _ ?_
              exact Wp.weak (leL.k (leL.k (leL.k (leL.k (leL.k (leL.n leL.z)))))) (ih (v4 + 1) q hl ct)
            · clear hP hX hk P' X cal
              rw [if_neg hc] at hl
              have hl := Option.some.inj hl
              subst hl
              exact Wp.weak (leL.k (leL.k (leL.k (leL.k (leL.k (leL.n leL.z)))))) (ct.2.1 rfl)
        · clear hP hX hk P' X cal
          rw [if_neg hc] at hl
          have hl := Option.some.inj hl
          subst hl
          exact (ct.1 rfl)
set_option maxRecDepth 20000 in
set_option maxHeartbeats 4000000 in
theorem e_lp_X11_judge_34_70 (d : Nat) (hs : List Hr) (P : Option Value → Hp → Prop) (S : St) (f2 : Int32) : ∀ (n : Nat) (v4 : Int32) (q : Nat × Int32), lp_X11_judge_34 S 70 f2 n v4 = some q → (q.1 = 0 → WM mi_X11_judge (d + 2) P 61 [some (.ref 7), none, some (.int f2), some (.ref 70), some (.int q.2), none] [] (st S hs)) ∧ (q.1 = 1 → WM mi_X11_judge (d + 2) P 106 [some (.ref 7), none, some (.int f2), some (.ref 70), some (.int q.2), none] [] (st S hs)) ∧ (q.1 = 2 → WM mi_X11_judge (d + 2) P 115 [some (.ref 7), none, some (.int f2), some (.ref 70), none, none] [] (st S hs)) → WM mi_X11_judge (d + 2) P 34 [some (.ref 7), none, some (.int f2), some (.ref 70), some (.int v4), none] [] (st S hs) := by
  intro n
  induction n with
  | zero =>
    intro v4 q hl
    cases hl
  | succ n ih =>
    intro v4 q hl ct
    rw [lp_X11_judge_34] at hl
    refine Wp.stepsG 5 (fun cal X P' hk hX hP => ?_)
    show ((S.1 8 2) ≤ v4 → X (115, [some (.ref 7), none, some (.int f2), some (.ref 70), some (.int v4), none], [], st S hs, 0, 0)) ∧ (¬ (S.1 8 2) ≤ v4 → X (46, [some (.ref 7), none, some (.int f2), some (.ref 70), some (.int v4), none], [], st S hs, 0, 0))
    refine ⟨fun hc => hX _ ?_, fun hc => hX _ ?_⟩
    · clear hP hX hk P' X cal
      rw [if_pos hc] at hl
      have hl := Option.some.inj hl
      subst hl
      exact Wp.weak (leL.k (leL.k (leL.k (leL.k (leL.n (leL.k leL.z)))))) (ct.2.2 rfl)
    · clear hP hX hk P' X cal
      rw [if_neg hc] at hl
      refine Wp.stepsG 2 (fun cal X P' hk hX hP => ?_)
      show (f2 < 0 → X (61, [some (.ref 7), none, some (.int f2), some (.ref 70), some (.int v4), none], [], st S hs, 0, 0)) ∧ (¬ f2 < 0 → X (50, [some (.ref 7), none, some (.int f2), some (.ref 70), some (.int v4), none], [], st S hs, 0, 0))
      refine ⟨fun hc => hX _ ?_, fun hc => hX _ ?_⟩
      · clear hP hX hk P' X cal
        rw [if_pos hc] at hl
        have hl := Option.some.inj hl
        subst hl
        exact (ct.1 rfl)
      · clear hP hX hk P' X cal
        rw [if_neg hc] at hl
        refine Wp.stepsG 6 (fun cal X P' hk hX hP => ?_)
        show (f2 < ((S.1 70 2) - v4) → X (67, [some (.ref 7), none, some (.int f2), some (.ref 70), some (.int v4), none], [], st S hs, 0, 0)) ∧ (¬ f2 < ((S.1 70 2) - v4) → X (61, [some (.ref 7), none, some (.int f2), some (.ref 70), some (.int v4), none], [], st S hs, 0, 0))
        refine ⟨fun hc => hX _ ?_, fun hc => hX _ ?_⟩
        · clear hP hX hk P' X cal
          rw [if_pos hc] at hl
          refine Wp.stepsG 4 (fun cal X P' hk hX hP => ?_)
          show (¬ (S.1 8 3) = 0 → X (81, [some (.ref 7), none, some (.int f2), some (.ref 70), some (.int v4), none], [], st S hs, 0, 0)) ∧ ((S.1 8 3) = 0 → X (77, [some (.ref 7), none, some (.int f2), some (.ref 70), some (.int v4), none], [], st S hs, 0, 0))
          refine ⟨fun hc => hX _ ?_, fun hc => hX _ ?_⟩
          · clear hP hX hk P' X cal
            rw [if_neg hc] at hl
            refine Wp.stepsG 4 (fun cal X P' hk hX hP => ?_)
            show kcall cal ix_X11_timesOf [.ref 7, .int 0, .int v4] (st S hs) [] 0 0 (0, 0) (fun v σ' c' m' => X (88, [some (.ref 7), none, some (.int f2), some (.ref 70), some (.int v4), none], v.toList ++ [], σ', c', m'))
            obtain ⟨q14, hq14, hl⟩ := bd_some hl
            refine kcall0 rfl (hk _ _ _ _ _ _ (e_X11_timesOf (d + 1) S hs 0 v4 q14 hq14 _ ?_))
            show X (88, [some (.ref 7), none, some (.int f2), some (.ref 70), some (.int v4), none], [.int q14], st S hs, 0, 0)
            refine hX _ ?_
            clear hP hX hk P' X cal
            refine Wp.stepsG 7 (fun cal X P' hk hX hP => ?_)
            show vp_in (f2 + v4) 60 ∧ X (99, [some (.ref 7), none, some (.int f2), some (.ref 70), some (.int v4), some (.int q14)], [.long ((S.2.1 71) (f2 + v4).toNatClampNeg)], st S hs, 0, 0)
            obtain ⟨hg, hl⟩ := gd_some hl
            refine ⟨hg, hX _ ?_⟩
            clear hP hX hk P' X cal
            refine Wp.stepsG 4 (fun cal X P' hk hX hP => ?_)
            show ((lg_cmp ((S.2.1 71) (f2 + v4).toNatClampNeg) q14.toInt64) = 0 → X (109, [some (.ref 7), none, some (.int f2), some (.ref 70), some (.int v4), some (.int q14)], [], st S hs, 0, 0)) ∧ (¬ (lg_cmp ((S.2.1 71) (f2 + v4).toNatClampNeg) q14.toInt64) = 0 → X (106, [some (.ref 7), none, some (.int f2), some (.ref 70), some (.int v4), some (.int q14)], [], st S hs, 0, 0))
            refine ⟨fun hc => hX _ ?_, fun hc => hX _ ?_⟩
            · clear hP hX hk P' X cal
              rw [if_pos hc] at hl
              refine Wp.stepsG 2 (fun cal X P' hk hX hP => ?_)
              show X (34, [some (.ref 7), none, some (.int f2), some (.ref 70), some (.int (v4 + 1)), some (.int q14)], [], st S hs, 0, 0)
              refine hX _ ?_
              exact Wp.weak (leL.k (leL.k (leL.k (leL.k (leL.k (leL.n leL.z)))))) (ih (v4 + 1) q hl ct)
            · clear hP hX hk P' X cal
              rw [if_neg hc] at hl
              have hl := Option.some.inj hl
              subst hl
              exact Wp.weak (leL.k (leL.k (leL.k (leL.k (leL.k (leL.n leL.z)))))) (ct.2.1 rfl)
          · clear hP hX hk P' X cal
            rw [if_pos hc] at hl
            refine Wp.stepsG 9 (fun cal X P' hk hX hP => ?_)
            show vp_in (f2 + v4) 60 ∧ X (99, [some (.ref 7), none, some (.int f2), some (.ref 70), some (.int v4), some (.int 0)], [.long ((S.2.1 71) (f2 + v4).toNatClampNeg)], st S hs, 0, 0)
            obtain ⟨hg, hl⟩ := gd_some hl
            refine ⟨hg, hX _ ?_⟩
            clear hP hX hk P' X cal
            refine Wp.stepsG 4 (fun cal X P' hk hX hP => ?_)
            show ((lg_cmp ((S.2.1 71) (f2 + v4).toNatClampNeg) ((0 : Int32).toInt64)) = 0 → X (109, [some (.ref 7), none, some (.int f2), some (.ref 70), some (.int v4), some (.int 0)], [], st S hs, 0, 0)) ∧ (¬ (lg_cmp ((S.2.1 71) (f2 + v4).toNatClampNeg) ((0 : Int32).toInt64)) = 0 → X (106, [some (.ref 7), none, some (.int f2), some (.ref 70), some (.int v4), some (.int 0)], [], st S hs, 0, 0))
            refine ⟨fun hc => hX _ ?_, fun hc => hX _ ?_⟩
            · clear hP hX hk P' X cal
              rw [if_pos hc] at hl
              refine Wp.stepsG 2 (fun cal X P' hk hX hP => ?_)
              show X (34, [some (.ref 7), none, some (.int f2), some (.ref 70), some (.int (v4 + 1)), some (.int 0)], [], st S hs, 0, 0)
              refine hX _ ?_
              exact Wp.weak (leL.k (leL.k (leL.k (leL.k (leL.k (leL.n leL.z)))))) (ih (v4 + 1) q hl ct)
            · clear hP hX hk P' X cal
              rw [if_neg hc] at hl
              have hl := Option.some.inj hl
              subst hl
              exact Wp.weak (leL.k (leL.k (leL.k (leL.k (leL.k (leL.n leL.z)))))) (ct.2.1 rfl)
        · clear hP hX hk P' X cal
          rw [if_neg hc] at hl
          have hl := Option.some.inj hl
          subst hl
          exact (ct.1 rfl)
set_option maxRecDepth 20000 in
set_option maxHeartbeats 4000000 in
theorem e_lp_X11_judge_34_72 (d : Nat) (hs : List Hr) (P : Option Value → Hp → Prop) (S : St) (f2 : Int32) : ∀ (n : Nat) (v4 : Int32) (q : Nat × Int32), lp_X11_judge_34 S 72 f2 n v4 = some q → (q.1 = 0 → WM mi_X11_judge (d + 2) P 61 [some (.ref 7), none, some (.int f2), some (.ref 72), some (.int q.2), none] [] (st S hs)) ∧ (q.1 = 1 → WM mi_X11_judge (d + 2) P 106 [some (.ref 7), none, some (.int f2), some (.ref 72), some (.int q.2), none] [] (st S hs)) ∧ (q.1 = 2 → WM mi_X11_judge (d + 2) P 115 [some (.ref 7), none, some (.int f2), some (.ref 72), none, none] [] (st S hs)) → WM mi_X11_judge (d + 2) P 34 [some (.ref 7), none, some (.int f2), some (.ref 72), some (.int v4), none] [] (st S hs) := by
  intro n
  induction n with
  | zero =>
    intro v4 q hl
    cases hl
  | succ n ih =>
    intro v4 q hl ct
    rw [lp_X11_judge_34] at hl
    refine Wp.stepsG 5 (fun cal X P' hk hX hP => ?_)
    show ((S.1 8 2) ≤ v4 → X (115, [some (.ref 7), none, some (.int f2), some (.ref 72), some (.int v4), none], [], st S hs, 0, 0)) ∧ (¬ (S.1 8 2) ≤ v4 → X (46, [some (.ref 7), none, some (.int f2), some (.ref 72), some (.int v4), none], [], st S hs, 0, 0))
    refine ⟨fun hc => hX _ ?_, fun hc => hX _ ?_⟩
    · clear hP hX hk P' X cal
      rw [if_pos hc] at hl
      have hl := Option.some.inj hl
      subst hl
      exact Wp.weak (leL.k (leL.k (leL.k (leL.k (leL.n (leL.k leL.z)))))) (ct.2.2 rfl)
    · clear hP hX hk P' X cal
      rw [if_neg hc] at hl
      refine Wp.stepsG 2 (fun cal X P' hk hX hP => ?_)
      show (f2 < 0 → X (61, [some (.ref 7), none, some (.int f2), some (.ref 72), some (.int v4), none], [], st S hs, 0, 0)) ∧ (¬ f2 < 0 → X (50, [some (.ref 7), none, some (.int f2), some (.ref 72), some (.int v4), none], [], st S hs, 0, 0))
      refine ⟨fun hc => hX _ ?_, fun hc => hX _ ?_⟩
      · clear hP hX hk P' X cal
        rw [if_pos hc] at hl
        have hl := Option.some.inj hl
        subst hl
        exact (ct.1 rfl)
      · clear hP hX hk P' X cal
        rw [if_neg hc] at hl
        refine Wp.stepsG 6 (fun cal X P' hk hX hP => ?_)
        show (f2 < ((S.1 72 2) - v4) → X (67, [some (.ref 7), none, some (.int f2), some (.ref 72), some (.int v4), none], [], st S hs, 0, 0)) ∧ (¬ f2 < ((S.1 72 2) - v4) → X (61, [some (.ref 7), none, some (.int f2), some (.ref 72), some (.int v4), none], [], st S hs, 0, 0))
        refine ⟨fun hc => hX _ ?_, fun hc => hX _ ?_⟩
        · clear hP hX hk P' X cal
          rw [if_pos hc] at hl
          refine Wp.stepsG 4 (fun cal X P' hk hX hP => ?_)
          show (¬ (S.1 8 3) = 0 → X (81, [some (.ref 7), none, some (.int f2), some (.ref 72), some (.int v4), none], [], st S hs, 0, 0)) ∧ ((S.1 8 3) = 0 → X (77, [some (.ref 7), none, some (.int f2), some (.ref 72), some (.int v4), none], [], st S hs, 0, 0))
          refine ⟨fun hc => hX _ ?_, fun hc => hX _ ?_⟩
          · clear hP hX hk P' X cal
            rw [if_neg hc] at hl
            refine Wp.stepsG 4 (fun cal X P' hk hX hP => ?_)
            show kcall cal ix_X11_timesOf [.ref 7, .int 0, .int v4] (st S hs) [] 0 0 (0, 0) (fun v σ' c' m' => X (88, [some (.ref 7), none, some (.int f2), some (.ref 72), some (.int v4), none], v.toList ++ [], σ', c', m'))
            obtain ⟨q17, hq17, hl⟩ := bd_some hl
            refine kcall0 rfl (hk _ _ _ _ _ _ (e_X11_timesOf (d + 1) S hs 0 v4 q17 hq17 _ ?_))
            show X (88, [some (.ref 7), none, some (.int f2), some (.ref 72), some (.int v4), none], [.int q17], st S hs, 0, 0)
            refine hX _ ?_
            clear hP hX hk P' X cal
            refine Wp.stepsG 7 (fun cal X P' hk hX hP => ?_)
            show vp_in (f2 + v4) 60 ∧ X (99, [some (.ref 7), none, some (.int f2), some (.ref 72), some (.int v4), some (.int q17)], [.long ((S.2.1 73) (f2 + v4).toNatClampNeg)], st S hs, 0, 0)
            obtain ⟨hg, hl⟩ := gd_some hl
            refine ⟨hg, hX _ ?_⟩
            clear hP hX hk P' X cal
            refine Wp.stepsG 4 (fun cal X P' hk hX hP => ?_)
            show ((lg_cmp ((S.2.1 73) (f2 + v4).toNatClampNeg) q17.toInt64) = 0 → X (109, [some (.ref 7), none, some (.int f2), some (.ref 72), some (.int v4), some (.int q17)], [], st S hs, 0, 0)) ∧ (¬ (lg_cmp ((S.2.1 73) (f2 + v4).toNatClampNeg) q17.toInt64) = 0 → X (106, [some (.ref 7), none, some (.int f2), some (.ref 72), some (.int v4), some (.int q17)], [], st S hs, 0, 0))
            refine ⟨fun hc => hX _ ?_, fun hc => hX _ ?_⟩
            · clear hP hX hk P' X cal
              rw [if_pos hc] at hl
              refine Wp.stepsG 2 (fun cal X P' hk hX hP => ?_)
              show X (34, [some (.ref 7), none, some (.int f2), some (.ref 72), some (.int (v4 + 1)), some (.int q17)], [], st S hs, 0, 0)
              refine hX _ ?_
              exact Wp.weak (leL.k (leL.k (leL.k (leL.k (leL.k (leL.n leL.z)))))) (ih (v4 + 1) q hl ct)
            · clear hP hX hk P' X cal
              rw [if_neg hc] at hl
              have hl := Option.some.inj hl
              subst hl
              exact Wp.weak (leL.k (leL.k (leL.k (leL.k (leL.k (leL.n leL.z)))))) (ct.2.1 rfl)
          · clear hP hX hk P' X cal
            rw [if_pos hc] at hl
            refine Wp.stepsG 9 (fun cal X P' hk hX hP => ?_)
            show vp_in (f2 + v4) 60 ∧ X (99, [some (.ref 7), none, some (.int f2), some (.ref 72), some (.int v4), some (.int 0)], [.long ((S.2.1 73) (f2 + v4).toNatClampNeg)], st S hs, 0, 0)
            obtain ⟨hg, hl⟩ := gd_some hl
            refine ⟨hg, hX _ ?_⟩
            clear hP hX hk P' X cal
            refine Wp.stepsG 4 (fun cal X P' hk hX hP => ?_)
            show ((lg_cmp ((S.2.1 73) (f2 + v4).toNatClampNeg) ((0 : Int32).toInt64)) = 0 → X (109, [some (.ref 7), none, some (.int f2), some (.ref 72), some (.int v4), some (.int 0)], [], st S hs, 0, 0)) ∧ (¬ (lg_cmp ((S.2.1 73) (f2 + v4).toNatClampNeg) ((0 : Int32).toInt64)) = 0 → X (106, [some (.ref 7), none, some (.int f2), some (.ref 72), some (.int v4), some (.int 0)], [], st S hs, 0, 0))
            refine ⟨fun hc => hX _ ?_, fun hc => hX _ ?_⟩
            · clear hP hX hk P' X cal
              rw [if_pos hc] at hl
              refine Wp.stepsG 2 (fun cal X P' hk hX hP => ?_)
              show X (34, [some (.ref 7), none, some (.int f2), some (.ref 72), some (.int (v4 + 1)), some (.int 0)], [], st S hs, 0, 0)
              refine hX _ ?_
              exact Wp.weak (leL.k (leL.k (leL.k (leL.k (leL.k (leL.n leL.z)))))) (ih (v4 + 1) q hl ct)
            · clear hP hX hk P' X cal
              rw [if_neg hc] at hl
              have hl := Option.some.inj hl
              subst hl
              exact Wp.weak (leL.k (leL.k (leL.k (leL.k (leL.k (leL.n leL.z)))))) (ct.2.1 rfl)
        · clear hP hX hk P' X cal
          rw [if_neg hc] at hl
          have hl := Option.some.inj hl
          subst hl
          exact (ct.1 rfl)
set_option maxRecDepth 20000 in
set_option maxHeartbeats 4000000 in
theorem e_lp_X11_judge_34_74 (d : Nat) (hs : List Hr) (P : Option Value → Hp → Prop) (S : St) (f2 : Int32) : ∀ (n : Nat) (v4 : Int32) (q : Nat × Int32), lp_X11_judge_34 S 74 f2 n v4 = some q → (q.1 = 0 → WM mi_X11_judge (d + 2) P 61 [some (.ref 7), none, some (.int f2), some (.ref 74), some (.int q.2), none] [] (st S hs)) ∧ (q.1 = 1 → WM mi_X11_judge (d + 2) P 106 [some (.ref 7), none, some (.int f2), some (.ref 74), some (.int q.2), none] [] (st S hs)) ∧ (q.1 = 2 → WM mi_X11_judge (d + 2) P 115 [some (.ref 7), none, some (.int f2), some (.ref 74), none, none] [] (st S hs)) → WM mi_X11_judge (d + 2) P 34 [some (.ref 7), none, some (.int f2), some (.ref 74), some (.int v4), none] [] (st S hs) := by
  intro n
  induction n with
  | zero =>
    intro v4 q hl
    cases hl
  | succ n ih =>
    intro v4 q hl ct
    rw [lp_X11_judge_34] at hl
    refine Wp.stepsG 5 (fun cal X P' hk hX hP => ?_)
    show ((S.1 8 2) ≤ v4 → X (115, [some (.ref 7), none, some (.int f2), some (.ref 74), some (.int v4), none], [], st S hs, 0, 0)) ∧ (¬ (S.1 8 2) ≤ v4 → X (46, [some (.ref 7), none, some (.int f2), some (.ref 74), some (.int v4), none], [], st S hs, 0, 0))
    refine ⟨fun hc => hX _ ?_, fun hc => hX _ ?_⟩
    · clear hP hX hk P' X cal
      rw [if_pos hc] at hl
      have hl := Option.some.inj hl
      subst hl
      exact Wp.weak (leL.k (leL.k (leL.k (leL.k (leL.n (leL.k leL.z)))))) (ct.2.2 rfl)
    · clear hP hX hk P' X cal
      rw [if_neg hc] at hl
      refine Wp.stepsG 2 (fun cal X P' hk hX hP => ?_)
      show (f2 < 0 → X (61, [some (.ref 7), none, some (.int f2), some (.ref 74), some (.int v4), none], [], st S hs, 0, 0)) ∧ (¬ f2 < 0 → X (50, [some (.ref 7), none, some (.int f2), some (.ref 74), some (.int v4), none], [], st S hs, 0, 0))
      refine ⟨fun hc => hX _ ?_, fun hc => hX _ ?_⟩
      · clear hP hX hk P' X cal
        rw [if_pos hc] at hl
        have hl := Option.some.inj hl
        subst hl
        exact (ct.1 rfl)
      · clear hP hX hk P' X cal
        rw [if_neg hc] at hl
        refine Wp.stepsG 6 (fun cal X P' hk hX hP => ?_)
        show (f2 < ((S.1 74 2) - v4) → X (67, [some (.ref 7), none, some (.int f2), some (.ref 74), some (.int v4), none], [], st S hs, 0, 0)) ∧ (¬ f2 < ((S.1 74 2) - v4) → X (61, [some (.ref 7), none, some (.int f2), some (.ref 74), some (.int v4), none], [], st S hs, 0, 0))
        refine ⟨fun hc => hX _ ?_, fun hc => hX _ ?_⟩
        · clear hP hX hk P' X cal
          rw [if_pos hc] at hl
          refine Wp.stepsG 4 (fun cal X P' hk hX hP => ?_)
          show (¬ (S.1 8 3) = 0 → X (81, [some (.ref 7), none, some (.int f2), some (.ref 74), some (.int v4), none], [], st S hs, 0, 0)) ∧ ((S.1 8 3) = 0 → X (77, [some (.ref 7), none, some (.int f2), some (.ref 74), some (.int v4), none], [], st S hs, 0, 0))
          refine ⟨fun hc => hX _ ?_, fun hc => hX _ ?_⟩
          · clear hP hX hk P' X cal
            rw [if_neg hc] at hl
            refine Wp.stepsG 4 (fun cal X P' hk hX hP => ?_)
            show kcall cal ix_X11_timesOf [.ref 7, .int 0, .int v4] (st S hs) [] 0 0 (0, 0) (fun v σ' c' m' => X (88, [some (.ref 7), none, some (.int f2), some (.ref 74), some (.int v4), none], v.toList ++ [], σ', c', m'))
            obtain ⟨q20, hq20, hl⟩ := bd_some hl
            refine kcall0 rfl (hk _ _ _ _ _ _ (e_X11_timesOf (d + 1) S hs 0 v4 q20 hq20 _ ?_))
            show X (88, [some (.ref 7), none, some (.int f2), some (.ref 74), some (.int v4), none], [.int q20], st S hs, 0, 0)
            refine hX _ ?_
            clear hP hX hk P' X cal
            refine Wp.stepsG 7 (fun cal X P' hk hX hP => ?_)
            show vp_in (f2 + v4) 60 ∧ X (99, [some (.ref 7), none, some (.int f2), some (.ref 74), some (.int v4), some (.int q20)], [.long ((S.2.1 75) (f2 + v4).toNatClampNeg)], st S hs, 0, 0)
            obtain ⟨hg, hl⟩ := gd_some hl
            refine ⟨hg, hX _ ?_⟩
            clear hP hX hk P' X cal
            refine Wp.stepsG 4 (fun cal X P' hk hX hP => ?_)
            show ((lg_cmp ((S.2.1 75) (f2 + v4).toNatClampNeg) q20.toInt64) = 0 → X (109, [some (.ref 7), none, some (.int f2), some (.ref 74), some (.int v4), some (.int q20)], [], st S hs, 0, 0)) ∧ (¬ (lg_cmp ((S.2.1 75) (f2 + v4).toNatClampNeg) q20.toInt64) = 0 → X (106, [some (.ref 7), none, some (.int f2), some (.ref 74), some (.int v4), some (.int q20)], [], st S hs, 0, 0))
            refine ⟨fun hc => hX _ ?_, fun hc => hX _ ?_⟩
            · clear hP hX hk P' X cal
              rw [if_pos hc] at hl
              refine Wp.stepsG 2 (fun cal X P' hk hX hP => ?_)
              show X (34, [some (.ref 7), none, some (.int f2), some (.ref 74), some (.int (v4 + 1)), some (.int q20)], [], st S hs, 0, 0)
              refine hX _ ?_
              exact Wp.weak (leL.k (leL.k (leL.k (leL.k (leL.k (leL.n leL.z)))))) (ih (v4 + 1) q hl ct)
            · clear hP hX hk P' X cal
              rw [if_neg hc] at hl
              have hl := Option.some.inj hl
              subst hl
              exact Wp.weak (leL.k (leL.k (leL.k (leL.k (leL.k (leL.n leL.z)))))) (ct.2.1 rfl)
          · clear hP hX hk P' X cal
            rw [if_pos hc] at hl
            refine Wp.stepsG 9 (fun cal X P' hk hX hP => ?_)
            show vp_in (f2 + v4) 60 ∧ X (99, [some (.ref 7), none, some (.int f2), some (.ref 74), some (.int v4), some (.int 0)], [.long ((S.2.1 75) (f2 + v4).toNatClampNeg)], st S hs, 0, 0)
            obtain ⟨hg, hl⟩ := gd_some hl
            refine ⟨hg, hX _ ?_⟩
            clear hP hX hk P' X cal
            refine Wp.stepsG 4 (fun cal X P' hk hX hP => ?_)
            show ((lg_cmp ((S.2.1 75) (f2 + v4).toNatClampNeg) ((0 : Int32).toInt64)) = 0 → X (109, [some (.ref 7), none, some (.int f2), some (.ref 74), some (.int v4), some (.int 0)], [], st S hs, 0, 0)) ∧ (¬ (lg_cmp ((S.2.1 75) (f2 + v4).toNatClampNeg) ((0 : Int32).toInt64)) = 0 → X (106, [some (.ref 7), none, some (.int f2), some (.ref 74), some (.int v4), some (.int 0)], [], st S hs, 0, 0))
            refine ⟨fun hc => hX _ ?_, fun hc => hX _ ?_⟩
            · clear hP hX hk P' X cal
              rw [if_pos hc] at hl
              refine Wp.stepsG 2 (fun cal X P' hk hX hP => ?_)
              show X (34, [some (.ref 7), none, some (.int f2), some (.ref 74), some (.int (v4 + 1)), some (.int 0)], [], st S hs, 0, 0)
              refine hX _ ?_
              exact Wp.weak (leL.k (leL.k (leL.k (leL.k (leL.k (leL.n leL.z)))))) (ih (v4 + 1) q hl ct)
            · clear hP hX hk P' X cal
              rw [if_neg hc] at hl
              have hl := Option.some.inj hl
              subst hl
              exact Wp.weak (leL.k (leL.k (leL.k (leL.k (leL.k (leL.n leL.z)))))) (ct.2.1 rfl)
        · clear hP hX hk P' X cal
          rw [if_neg hc] at hl
          have hl := Option.some.inj hl
          subst hl
          exact (ct.1 rfl)
def r_X11_judge (S : St) (a1 : Int32) (a2 : Int32) : Option Int32 :=
  (r_X11_tapeAt S a1).bind fun q1 =>
  oN (q1) (
    some (-1)) (fun o =>
    if (S.1 o 1) = (-1) then
      (lp_X11_judge_34 S o a2 4000 0).bind fun q3 =>
      if q3.1 = 0 then
        some ((100 : Int32) + q3.2)
      else
      if q3.1 = 1 then
        some q3.2
      else
        some (-5)
    else
      if (S.1 o 1) = 2 then
        (lp_X11_judge_34 S o a2 4000 0).bind fun q4 =>
        if q4.1 = 0 then
          some ((100 : Int32) + q4.2)
        else
        if q4.1 = 1 then
          some q4.2
        else
          some (-5)
      else
        some (-12))
set_option maxRecDepth 20000 in
set_option maxHeartbeats 4000000 in
theorem e_X11_judge (d : Nat) (S : St) (hs : List Hr) (a1 : Int32) (a2 : Int32) (v : Int32) (hr : r_X11_judge S a1 a2 = some v) (P : Option Value → Hp → Prop) (h : P (some (.int v)) (st S hs)) : Ev (d + 3) ix_X11_judge 0 0 [.ref 7, .int a1, .int a2] (st S hs) P := by
  refine Ev.intro (M := mi_X11_judge) rfl (Nat.le_of_ble_eq_true rfl) ?_
  unfold r_X11_judge at hr
  refine Wp.stepsG 3 (fun cal X P' hk hX hP => ?_)
  show kcall cal ix_X11_tapeAt [.ref 7, .int a1] (st S hs) [] 0 0 (0, 0) (fun v σ' c' m' => X (5, [some (.ref 7), some (.int a1), some (.int a2), none, none, none], v.toList ++ [], σ', c', m'))
  obtain ⟨q1, hq1, hr⟩ := bd_some hr
  refine kcall0 rfl (hk _ _ _ _ _ _ (e_X11_tapeAt (d + 0) S hs a1 q1 hq1 _ ?_))
  show X (5, [some (.ref 7), some (.int a1), some (.int a2), none, none, none], [va_rf q1], st S hs, 0, 0)
  refine hX _ ?_
  clear hP hX hk P' X cal
  rcases c_X11_tapeAt hq1 with hz23 | hz23 | hz23 | hz23 | hz23 | hz23 | hz23
  · rw [hz23]
    rw [oN_no hz23] at hr
    have hr := Option.some.inj hr
    subst hr
    refine Wp.stepsG 5 (fun cal X P' hk hX hP => ?_)
    exact hP _ _ h
  · rw [hz23]
    rw [oN_is hz23] at hr
    refine Wp.stepsG 7 (fun cal X P' hk hX hP => ?_)
    show ((S.1 64 1) = (-1) → X (31, [some (.ref 7), some (.int a1), some (.int a2), some (.ref 64), none, none], [], st S hs, 0, 0)) ∧ (¬ (S.1 64 1) = (-1) → X (20, [some (.ref 7), some (.int a1), some (.int a2), some (.ref 64), none, none], [], st S hs, 0, 0))
    refine ⟨fun hc => hX _ ?_, fun hc => hX _ ?_⟩
    · clear hP hX hk P' X cal
      rw [if_pos hc] at hr
      refine Wp.stepsG 2 (fun cal X P' hk hX hP => ?_)
      show X (34, [some (.ref 7), some (.int a1), some (.int a2), some (.ref 64), some (.int 0), none], [], st S hs, 0, 0)
      refine hX _ ?_
      clear hP hX hk P' X cal
      obtain ⟨q6, hq6, hr⟩ := bd_some hr
      refine Wp.weak (leL.k (leL.n (leL.k (leL.k (leL.k (leL.k leL.z)))))) (e_lp_X11_judge_34_64 d hs P S a2 _ 0 q6 hq6 ?_)
      refine ⟨fun hc => ?_, fun hc => ?_, fun hc => ?_⟩
      · have hcc := hc
        rw [if_pos hcc] at hr
        have hr := Option.some.inj hr
        subst hr
        refine Wp.stepsG 4 (fun cal X P' hk hX hP => ?_)
        exact hP _ _ h
      · have hcc := hc
        rw [if_neg (fun z => by rw [z] at hcc; exact absurd hcc (by decide))] at hr
        rw [if_pos hcc] at hr
        have hr := Option.some.inj hr
        subst hr
        refine Wp.stepsG 2 (fun cal X P' hk hX hP => ?_)
        exact hP _ _ h
      · have hcc := hc
        rw [if_neg (fun z => by rw [z] at hcc; exact absurd hcc (by decide))] at hr
        rw [if_neg (fun z => by rw [z] at hcc; exact absurd hcc (by decide))] at hr
        have hr := Option.some.inj hr
        subst hr
        refine Wp.stepsG 2 (fun cal X P' hk hX hP => ?_)
        exact hP _ _ h
    · clear hP hX hk P' X cal
      rw [if_neg hc] at hr
      refine Wp.stepsG 4 (fun cal X P' hk hX hP => ?_)
      show ((S.1 64 1) = 2 → X (31, [some (.ref 7), some (.int a1), some (.int a2), some (.ref 64), none, none], [], st S hs, 0, 0)) ∧ (¬ (S.1 64 1) = 2 → X (28, [some (.ref 7), some (.int a1), some (.int a2), some (.ref 64), none, none], [], st S hs, 0, 0))
      refine ⟨fun hc => hX _ ?_, fun hc => hX _ ?_⟩
      · clear hP hX hk P' X cal
        rw [if_pos hc] at hr
        refine Wp.stepsG 2 (fun cal X P' hk hX hP => ?_)
        show X (34, [some (.ref 7), some (.int a1), some (.int a2), some (.ref 64), some (.int 0), none], [], st S hs, 0, 0)
        refine hX _ ?_
        clear hP hX hk P' X cal
        obtain ⟨q7, hq7, hr⟩ := bd_some hr
        refine Wp.weak (leL.k (leL.n (leL.k (leL.k (leL.k (leL.k leL.z)))))) (e_lp_X11_judge_34_64 d hs P S a2 _ 0 q7 hq7 ?_)
        refine ⟨fun hc => ?_, fun hc => ?_, fun hc => ?_⟩
        · have hcc := hc
          rw [if_pos hcc] at hr
          have hr := Option.some.inj hr
          subst hr
          refine Wp.stepsG 4 (fun cal X P' hk hX hP => ?_)
          exact hP _ _ h
        · have hcc := hc
          rw [if_neg (fun z => by rw [z] at hcc; exact absurd hcc (by decide))] at hr
          rw [if_pos hcc] at hr
          have hr := Option.some.inj hr
          subst hr
          refine Wp.stepsG 2 (fun cal X P' hk hX hP => ?_)
          exact hP _ _ h
        · have hcc := hc
          rw [if_neg (fun z => by rw [z] at hcc; exact absurd hcc (by decide))] at hr
          rw [if_neg (fun z => by rw [z] at hcc; exact absurd hcc (by decide))] at hr
          have hr := Option.some.inj hr
          subst hr
          refine Wp.stepsG 2 (fun cal X P' hk hX hP => ?_)
          exact hP _ _ h
      · clear hP hX hk P' X cal
        rw [if_neg hc] at hr
        have hr := Option.some.inj hr
        subst hr
        refine Wp.stepsG 2 (fun cal X P' hk hX hP => ?_)
        exact hP _ _ h
  · rw [hz23]
    rw [oN_is hz23] at hr
    refine Wp.stepsG 7 (fun cal X P' hk hX hP => ?_)
    show ((S.1 66 1) = (-1) → X (31, [some (.ref 7), some (.int a1), some (.int a2), some (.ref 66), none, none], [], st S hs, 0, 0)) ∧ (¬ (S.1 66 1) = (-1) → X (20, [some (.ref 7), some (.int a1), some (.int a2), some (.ref 66), none, none], [], st S hs, 0, 0))
    refine ⟨fun hc => hX _ ?_, fun hc => hX _ ?_⟩
    · clear hP hX hk P' X cal
      rw [if_pos hc] at hr
      refine Wp.stepsG 2 (fun cal X P' hk hX hP => ?_)
      show X (34, [some (.ref 7), some (.int a1), some (.int a2), some (.ref 66), some (.int 0), none], [], st S hs, 0, 0)
      refine hX _ ?_
      clear hP hX hk P' X cal
      obtain ⟨q9, hq9, hr⟩ := bd_some hr
      refine Wp.weak (leL.k (leL.n (leL.k (leL.k (leL.k (leL.k leL.z)))))) (e_lp_X11_judge_34_66 d hs P S a2 _ 0 q9 hq9 ?_)
      refine ⟨fun hc => ?_, fun hc => ?_, fun hc => ?_⟩
      · have hcc := hc
        rw [if_pos hcc] at hr
        have hr := Option.some.inj hr
        subst hr
        refine Wp.stepsG 4 (fun cal X P' hk hX hP => ?_)
        exact hP _ _ h
      · have hcc := hc
        rw [if_neg (fun z => by rw [z] at hcc; exact absurd hcc (by decide))] at hr
        rw [if_pos hcc] at hr
        have hr := Option.some.inj hr
        subst hr
        refine Wp.stepsG 2 (fun cal X P' hk hX hP => ?_)
        exact hP _ _ h
      · have hcc := hc
        rw [if_neg (fun z => by rw [z] at hcc; exact absurd hcc (by decide))] at hr
        rw [if_neg (fun z => by rw [z] at hcc; exact absurd hcc (by decide))] at hr
        have hr := Option.some.inj hr
        subst hr
        refine Wp.stepsG 2 (fun cal X P' hk hX hP => ?_)
        exact hP _ _ h
    · clear hP hX hk P' X cal
      rw [if_neg hc] at hr
      refine Wp.stepsG 4 (fun cal X P' hk hX hP => ?_)
      show ((S.1 66 1) = 2 → X (31, [some (.ref 7), some (.int a1), some (.int a2), some (.ref 66), none, none], [], st S hs, 0, 0)) ∧ (¬ (S.1 66 1) = 2 → X (28, [some (.ref 7), some (.int a1), some (.int a2), some (.ref 66), none, none], [], st S hs, 0, 0))
      refine ⟨fun hc => hX _ ?_, fun hc => hX _ ?_⟩
      · clear hP hX hk P' X cal
        rw [if_pos hc] at hr
        refine Wp.stepsG 2 (fun cal X P' hk hX hP => ?_)
        show X (34, [some (.ref 7), some (.int a1), some (.int a2), some (.ref 66), some (.int 0), none], [], st S hs, 0, 0)
        refine hX _ ?_
        clear hP hX hk P' X cal
        obtain ⟨q10, hq10, hr⟩ := bd_some hr
        refine Wp.weak (leL.k (leL.n (leL.k (leL.k (leL.k (leL.k leL.z)))))) (e_lp_X11_judge_34_66 d hs P S a2 _ 0 q10 hq10 ?_)
        refine ⟨fun hc => ?_, fun hc => ?_, fun hc => ?_⟩
        · have hcc := hc
          rw [if_pos hcc] at hr
          have hr := Option.some.inj hr
          subst hr
          refine Wp.stepsG 4 (fun cal X P' hk hX hP => ?_)
          exact hP _ _ h
        · have hcc := hc
          rw [if_neg (fun z => by rw [z] at hcc; exact absurd hcc (by decide))] at hr
          rw [if_pos hcc] at hr
          have hr := Option.some.inj hr
          subst hr
          refine Wp.stepsG 2 (fun cal X P' hk hX hP => ?_)
          exact hP _ _ h
        · have hcc := hc
          rw [if_neg (fun z => by rw [z] at hcc; exact absurd hcc (by decide))] at hr
          rw [if_neg (fun z => by rw [z] at hcc; exact absurd hcc (by decide))] at hr
          have hr := Option.some.inj hr
          subst hr
          refine Wp.stepsG 2 (fun cal X P' hk hX hP => ?_)
          exact hP _ _ h
      · clear hP hX hk P' X cal
        rw [if_neg hc] at hr
        have hr := Option.some.inj hr
        subst hr
        refine Wp.stepsG 2 (fun cal X P' hk hX hP => ?_)
        exact hP _ _ h
  · rw [hz23]
    rw [oN_is hz23] at hr
    refine Wp.stepsG 7 (fun cal X P' hk hX hP => ?_)
    show ((S.1 68 1) = (-1) → X (31, [some (.ref 7), some (.int a1), some (.int a2), some (.ref 68), none, none], [], st S hs, 0, 0)) ∧ (¬ (S.1 68 1) = (-1) → X (20, [some (.ref 7), some (.int a1), some (.int a2), some (.ref 68), none, none], [], st S hs, 0, 0))
    refine ⟨fun hc => hX _ ?_, fun hc => hX _ ?_⟩
    · clear hP hX hk P' X cal
      rw [if_pos hc] at hr
      refine Wp.stepsG 2 (fun cal X P' hk hX hP => ?_)
      show X (34, [some (.ref 7), some (.int a1), some (.int a2), some (.ref 68), some (.int 0), none], [], st S hs, 0, 0)
      refine hX _ ?_
      clear hP hX hk P' X cal
      obtain ⟨q12, hq12, hr⟩ := bd_some hr
      refine Wp.weak (leL.k (leL.n (leL.k (leL.k (leL.k (leL.k leL.z)))))) (e_lp_X11_judge_34_68 d hs P S a2 _ 0 q12 hq12 ?_)
      refine ⟨fun hc => ?_, fun hc => ?_, fun hc => ?_⟩
      · have hcc := hc
        rw [if_pos hcc] at hr
        have hr := Option.some.inj hr
        subst hr
        refine Wp.stepsG 4 (fun cal X P' hk hX hP => ?_)
        exact hP _ _ h
      · have hcc := hc
        rw [if_neg (fun z => by rw [z] at hcc; exact absurd hcc (by decide))] at hr
        rw [if_pos hcc] at hr
        have hr := Option.some.inj hr
        subst hr
        refine Wp.stepsG 2 (fun cal X P' hk hX hP => ?_)
        exact hP _ _ h
      · have hcc := hc
        rw [if_neg (fun z => by rw [z] at hcc; exact absurd hcc (by decide))] at hr
        rw [if_neg (fun z => by rw [z] at hcc; exact absurd hcc (by decide))] at hr
        have hr := Option.some.inj hr
        subst hr
        refine Wp.stepsG 2 (fun cal X P' hk hX hP => ?_)
        exact hP _ _ h
    · clear hP hX hk P' X cal
      rw [if_neg hc] at hr
      refine Wp.stepsG 4 (fun cal X P' hk hX hP => ?_)
      show ((S.1 68 1) = 2 → X (31, [some (.ref 7), some (.int a1), some (.int a2), some (.ref 68), none, none], [], st S hs, 0, 0)) ∧ (¬ (S.1 68 1) = 2 → X (28, [some (.ref 7), some (.int a1), some (.int a2), some (.ref 68), none, none], [], st S hs, 0, 0))
      refine ⟨fun hc => hX _ ?_, fun hc => hX _ ?_⟩
      · clear hP hX hk P' X cal
        rw [if_pos hc] at hr
        refine Wp.stepsG 2 (fun cal X P' hk hX hP => ?_)
        show X (34, [some (.ref 7), some (.int a1), some (.int a2), some (.ref 68), some (.int 0), none], [], st S hs, 0, 0)
        refine hX _ ?_
        clear hP hX hk P' X cal
        obtain ⟨q13, hq13, hr⟩ := bd_some hr
        refine Wp.weak (leL.k (leL.n (leL.k (leL.k (leL.k (leL.k leL.z)))))) (e_lp_X11_judge_34_68 d hs P S a2 _ 0 q13 hq13 ?_)
        refine ⟨fun hc => ?_, fun hc => ?_, fun hc => ?_⟩
        · have hcc := hc
          rw [if_pos hcc] at hr
          have hr := Option.some.inj hr
          subst hr
          refine Wp.stepsG 4 (fun cal X P' hk hX hP => ?_)
          exact hP _ _ h
        · have hcc := hc
          rw [if_neg (fun z => by rw [z] at hcc; exact absurd hcc (by decide))] at hr
          rw [if_pos hcc] at hr
          have hr := Option.some.inj hr
          subst hr
          refine Wp.stepsG 2 (fun cal X P' hk hX hP => ?_)
          exact hP _ _ h
        · have hcc := hc
          rw [if_neg (fun z => by rw [z] at hcc; exact absurd hcc (by decide))] at hr
          rw [if_neg (fun z => by rw [z] at hcc; exact absurd hcc (by decide))] at hr
          have hr := Option.some.inj hr
          subst hr
          refine Wp.stepsG 2 (fun cal X P' hk hX hP => ?_)
          exact hP _ _ h
      · clear hP hX hk P' X cal
        rw [if_neg hc] at hr
        have hr := Option.some.inj hr
        subst hr
        refine Wp.stepsG 2 (fun cal X P' hk hX hP => ?_)
        exact hP _ _ h
  · rw [hz23]
    rw [oN_is hz23] at hr
    refine Wp.stepsG 7 (fun cal X P' hk hX hP => ?_)
    show ((S.1 70 1) = (-1) → X (31, [some (.ref 7), some (.int a1), some (.int a2), some (.ref 70), none, none], [], st S hs, 0, 0)) ∧ (¬ (S.1 70 1) = (-1) → X (20, [some (.ref 7), some (.int a1), some (.int a2), some (.ref 70), none, none], [], st S hs, 0, 0))
    refine ⟨fun hc => hX _ ?_, fun hc => hX _ ?_⟩
    · clear hP hX hk P' X cal
      rw [if_pos hc] at hr
      refine Wp.stepsG 2 (fun cal X P' hk hX hP => ?_)
      show X (34, [some (.ref 7), some (.int a1), some (.int a2), some (.ref 70), some (.int 0), none], [], st S hs, 0, 0)
      refine hX _ ?_
      clear hP hX hk P' X cal
      obtain ⟨q15, hq15, hr⟩ := bd_some hr
      refine Wp.weak (leL.k (leL.n (leL.k (leL.k (leL.k (leL.k leL.z)))))) (e_lp_X11_judge_34_70 d hs P S a2 _ 0 q15 hq15 ?_)
      refine ⟨fun hc => ?_, fun hc => ?_, fun hc => ?_⟩
      · have hcc := hc
        rw [if_pos hcc] at hr
        have hr := Option.some.inj hr
        subst hr
        refine Wp.stepsG 4 (fun cal X P' hk hX hP => ?_)
        exact hP _ _ h
      · have hcc := hc
        rw [if_neg (fun z => by rw [z] at hcc; exact absurd hcc (by decide))] at hr
        rw [if_pos hcc] at hr
        have hr := Option.some.inj hr
        subst hr
        refine Wp.stepsG 2 (fun cal X P' hk hX hP => ?_)
        exact hP _ _ h
      · have hcc := hc
        rw [if_neg (fun z => by rw [z] at hcc; exact absurd hcc (by decide))] at hr
        rw [if_neg (fun z => by rw [z] at hcc; exact absurd hcc (by decide))] at hr
        have hr := Option.some.inj hr
        subst hr
        refine Wp.stepsG 2 (fun cal X P' hk hX hP => ?_)
        exact hP _ _ h
    · clear hP hX hk P' X cal
      rw [if_neg hc] at hr
      refine Wp.stepsG 4 (fun cal X P' hk hX hP => ?_)
      show ((S.1 70 1) = 2 → X (31, [some (.ref 7), some (.int a1), some (.int a2), some (.ref 70), none, none], [], st S hs, 0, 0)) ∧ (¬ (S.1 70 1) = 2 → X (28, [some (.ref 7), some (.int a1), some (.int a2), some (.ref 70), none, none], [], st S hs, 0, 0))
      refine ⟨fun hc => hX _ ?_, fun hc => hX _ ?_⟩
      · clear hP hX hk P' X cal
        rw [if_pos hc] at hr
        refine Wp.stepsG 2 (fun cal X P' hk hX hP => ?_)
        show X (34, [some (.ref 7), some (.int a1), some (.int a2), some (.ref 70), some (.int 0), none], [], st S hs, 0, 0)
        refine hX _ ?_
        clear hP hX hk P' X cal
        obtain ⟨q16, hq16, hr⟩ := bd_some hr
        refine Wp.weak (leL.k (leL.n (leL.k (leL.k (leL.k (leL.k leL.z)))))) (e_lp_X11_judge_34_70 d hs P S a2 _ 0 q16 hq16 ?_)
        refine ⟨fun hc => ?_, fun hc => ?_, fun hc => ?_⟩
        · have hcc := hc
          rw [if_pos hcc] at hr
          have hr := Option.some.inj hr
          subst hr
          refine Wp.stepsG 4 (fun cal X P' hk hX hP => ?_)
          exact hP _ _ h
        · have hcc := hc
          rw [if_neg (fun z => by rw [z] at hcc; exact absurd hcc (by decide))] at hr
          rw [if_pos hcc] at hr
          have hr := Option.some.inj hr
          subst hr
          refine Wp.stepsG 2 (fun cal X P' hk hX hP => ?_)
          exact hP _ _ h
        · have hcc := hc
          rw [if_neg (fun z => by rw [z] at hcc; exact absurd hcc (by decide))] at hr
          rw [if_neg (fun z => by rw [z] at hcc; exact absurd hcc (by decide))] at hr
          have hr := Option.some.inj hr
          subst hr
          refine Wp.stepsG 2 (fun cal X P' hk hX hP => ?_)
          exact hP _ _ h
      · clear hP hX hk P' X cal
        rw [if_neg hc] at hr
        have hr := Option.some.inj hr
        subst hr
        refine Wp.stepsG 2 (fun cal X P' hk hX hP => ?_)
        exact hP _ _ h
  · rw [hz23]
    rw [oN_is hz23] at hr
    refine Wp.stepsG 7 (fun cal X P' hk hX hP => ?_)
    show ((S.1 72 1) = (-1) → X (31, [some (.ref 7), some (.int a1), some (.int a2), some (.ref 72), none, none], [], st S hs, 0, 0)) ∧ (¬ (S.1 72 1) = (-1) → X (20, [some (.ref 7), some (.int a1), some (.int a2), some (.ref 72), none, none], [], st S hs, 0, 0))
    refine ⟨fun hc => hX _ ?_, fun hc => hX _ ?_⟩
    · clear hP hX hk P' X cal
      rw [if_pos hc] at hr
      refine Wp.stepsG 2 (fun cal X P' hk hX hP => ?_)
      show X (34, [some (.ref 7), some (.int a1), some (.int a2), some (.ref 72), some (.int 0), none], [], st S hs, 0, 0)
      refine hX _ ?_
      clear hP hX hk P' X cal
      obtain ⟨q18, hq18, hr⟩ := bd_some hr
      refine Wp.weak (leL.k (leL.n (leL.k (leL.k (leL.k (leL.k leL.z)))))) (e_lp_X11_judge_34_72 d hs P S a2 _ 0 q18 hq18 ?_)
      refine ⟨fun hc => ?_, fun hc => ?_, fun hc => ?_⟩
      · have hcc := hc
        rw [if_pos hcc] at hr
        have hr := Option.some.inj hr
        subst hr
        refine Wp.stepsG 4 (fun cal X P' hk hX hP => ?_)
        exact hP _ _ h
      · have hcc := hc
        rw [if_neg (fun z => by rw [z] at hcc; exact absurd hcc (by decide))] at hr
        rw [if_pos hcc] at hr
        have hr := Option.some.inj hr
        subst hr
        refine Wp.stepsG 2 (fun cal X P' hk hX hP => ?_)
        exact hP _ _ h
      · have hcc := hc
        rw [if_neg (fun z => by rw [z] at hcc; exact absurd hcc (by decide))] at hr
        rw [if_neg (fun z => by rw [z] at hcc; exact absurd hcc (by decide))] at hr
        have hr := Option.some.inj hr
        subst hr
        refine Wp.stepsG 2 (fun cal X P' hk hX hP => ?_)
        exact hP _ _ h
    · clear hP hX hk P' X cal
      rw [if_neg hc] at hr
      refine Wp.stepsG 4 (fun cal X P' hk hX hP => ?_)
      show ((S.1 72 1) = 2 → X (31, [some (.ref 7), some (.int a1), some (.int a2), some (.ref 72), none, none], [], st S hs, 0, 0)) ∧ (¬ (S.1 72 1) = 2 → X (28, [some (.ref 7), some (.int a1), some (.int a2), some (.ref 72), none, none], [], st S hs, 0, 0))
      refine ⟨fun hc => hX _ ?_, fun hc => hX _ ?_⟩
      · clear hP hX hk P' X cal
        rw [if_pos hc] at hr
        refine Wp.stepsG 2 (fun cal X P' hk hX hP => ?_)
        show X (34, [some (.ref 7), some (.int a1), some (.int a2), some (.ref 72), some (.int 0), none], [], st S hs, 0, 0)
        refine hX _ ?_
        clear hP hX hk P' X cal
        obtain ⟨q19, hq19, hr⟩ := bd_some hr
        refine Wp.weak (leL.k (leL.n (leL.k (leL.k (leL.k (leL.k leL.z)))))) (e_lp_X11_judge_34_72 d hs P S a2 _ 0 q19 hq19 ?_)
        refine ⟨fun hc => ?_, fun hc => ?_, fun hc => ?_⟩
        · have hcc := hc
          rw [if_pos hcc] at hr
          have hr := Option.some.inj hr
          subst hr
          refine Wp.stepsG 4 (fun cal X P' hk hX hP => ?_)
          exact hP _ _ h
        · have hcc := hc
          rw [if_neg (fun z => by rw [z] at hcc; exact absurd hcc (by decide))] at hr
          rw [if_pos hcc] at hr
          have hr := Option.some.inj hr
          subst hr
          refine Wp.stepsG 2 (fun cal X P' hk hX hP => ?_)
          exact hP _ _ h
        · have hcc := hc
          rw [if_neg (fun z => by rw [z] at hcc; exact absurd hcc (by decide))] at hr
          rw [if_neg (fun z => by rw [z] at hcc; exact absurd hcc (by decide))] at hr
          have hr := Option.some.inj hr
          subst hr
          refine Wp.stepsG 2 (fun cal X P' hk hX hP => ?_)
          exact hP _ _ h
      · clear hP hX hk P' X cal
        rw [if_neg hc] at hr
        have hr := Option.some.inj hr
        subst hr
        refine Wp.stepsG 2 (fun cal X P' hk hX hP => ?_)
        exact hP _ _ h
  · rw [hz23]
    rw [oN_is hz23] at hr
    refine Wp.stepsG 7 (fun cal X P' hk hX hP => ?_)
    show ((S.1 74 1) = (-1) → X (31, [some (.ref 7), some (.int a1), some (.int a2), some (.ref 74), none, none], [], st S hs, 0, 0)) ∧ (¬ (S.1 74 1) = (-1) → X (20, [some (.ref 7), some (.int a1), some (.int a2), some (.ref 74), none, none], [], st S hs, 0, 0))
    refine ⟨fun hc => hX _ ?_, fun hc => hX _ ?_⟩
    · clear hP hX hk P' X cal
      rw [if_pos hc] at hr
      refine Wp.stepsG 2 (fun cal X P' hk hX hP => ?_)
      show X (34, [some (.ref 7), some (.int a1), some (.int a2), some (.ref 74), some (.int 0), none], [], st S hs, 0, 0)
      refine hX _ ?_
      clear hP hX hk P' X cal
      obtain ⟨q21, hq21, hr⟩ := bd_some hr
      refine Wp.weak (leL.k (leL.n (leL.k (leL.k (leL.k (leL.k leL.z)))))) (e_lp_X11_judge_34_74 d hs P S a2 _ 0 q21 hq21 ?_)
      refine ⟨fun hc => ?_, fun hc => ?_, fun hc => ?_⟩
      · have hcc := hc
        rw [if_pos hcc] at hr
        have hr := Option.some.inj hr
        subst hr
        refine Wp.stepsG 4 (fun cal X P' hk hX hP => ?_)
        exact hP _ _ h
      · have hcc := hc
        rw [if_neg (fun z => by rw [z] at hcc; exact absurd hcc (by decide))] at hr
        rw [if_pos hcc] at hr
        have hr := Option.some.inj hr
        subst hr
        refine Wp.stepsG 2 (fun cal X P' hk hX hP => ?_)
        exact hP _ _ h
      · have hcc := hc
        rw [if_neg (fun z => by rw [z] at hcc; exact absurd hcc (by decide))] at hr
        rw [if_neg (fun z => by rw [z] at hcc; exact absurd hcc (by decide))] at hr
        have hr := Option.some.inj hr
        subst hr
        refine Wp.stepsG 2 (fun cal X P' hk hX hP => ?_)
        exact hP _ _ h
    · clear hP hX hk P' X cal
      rw [if_neg hc] at hr
      refine Wp.stepsG 4 (fun cal X P' hk hX hP => ?_)
      show ((S.1 74 1) = 2 → X (31, [some (.ref 7), some (.int a1), some (.int a2), some (.ref 74), none, none], [], st S hs, 0, 0)) ∧ (¬ (S.1 74 1) = 2 → X (28, [some (.ref 7), some (.int a1), some (.int a2), some (.ref 74), none, none], [], st S hs, 0, 0))
      refine ⟨fun hc => hX _ ?_, fun hc => hX _ ?_⟩
      · clear hP hX hk P' X cal
        rw [if_pos hc] at hr
        refine Wp.stepsG 2 (fun cal X P' hk hX hP => ?_)
        show X (34, [some (.ref 7), some (.int a1), some (.int a2), some (.ref 74), some (.int 0), none], [], st S hs, 0, 0)
        refine hX _ ?_
        clear hP hX hk P' X cal
        obtain ⟨q22, hq22, hr⟩ := bd_some hr
        refine Wp.weak (leL.k (leL.n (leL.k (leL.k (leL.k (leL.k leL.z)))))) (e_lp_X11_judge_34_74 d hs P S a2 _ 0 q22 hq22 ?_)
        refine ⟨fun hc => ?_, fun hc => ?_, fun hc => ?_⟩
        · have hcc := hc
          rw [if_pos hcc] at hr
          have hr := Option.some.inj hr
          subst hr
          refine Wp.stepsG 4 (fun cal X P' hk hX hP => ?_)
          exact hP _ _ h
        · have hcc := hc
          rw [if_neg (fun z => by rw [z] at hcc; exact absurd hcc (by decide))] at hr
          rw [if_pos hcc] at hr
          have hr := Option.some.inj hr
          subst hr
          refine Wp.stepsG 2 (fun cal X P' hk hX hP => ?_)
          exact hP _ _ h
        · have hcc := hc
          rw [if_neg (fun z => by rw [z] at hcc; exact absurd hcc (by decide))] at hr
          rw [if_neg (fun z => by rw [z] at hcc; exact absurd hcc (by decide))] at hr
          have hr := Option.some.inj hr
          subst hr
          refine Wp.stepsG 2 (fun cal X P' hk hX hP => ?_)
          exact hP _ _ h
      · clear hP hX hk P' X cal
        rw [if_neg hc] at hr
        have hr := Option.some.inj hr
        subst hr
        refine Wp.stepsG 2 (fun cal X P' hk hX hP => ?_)
        exact hP _ _ h
def lp_X11_copy_9_19_2 : Nat → Int32 → St → Option (St)
  | 0, _, _ => none
  | n + 1, v2, S =>
    if 8 ≤ v2 then
      some S
    else
      if 8 ≤ v2 then
        some S
      else
        gd (¬ (v2 < 0 ∨ 8 ≤ v2.toNatClampNeg)) (
          gd (¬ (v2 < 0 ∨ 8 ≤ v2.toNatClampNeg)) (
            lp_X11_copy_9_19_2 n (v2 + 1) (sA S 19 (upd (S.1 19) v2.toNatClampNeg ((S.1 9) v2.toNatClampNeg)))))
set_option maxRecDepth 20000 in
set_option maxHeartbeats 4000000 in
theorem e_lp_X11_copy_9_19_2 (d : Nat) (hs : List Hr) (P : Option Value → Hp → Prop) : ∀ (n : Nat) (v2 : Int32) (S : St) (q : St), lp_X11_copy_9_19_2 n v2 S = some q → (WM mi_X11_copy (d + 0) P 26 [some (.ref 9), some (.ref 19), none] [] (st q hs)) → WM mi_X11_copy (d + 0) P 2 [some (.ref 9), some (.ref 19), some (.int v2)] [] (st S hs) := by
  intro n
  induction n with
  | zero =>
    intro v2 S q hl
    cases hl
  | succ n ih =>
    intro v2 S q hl ct
    rw [lp_X11_copy_9_19_2] at hl
    refine Wp.stepsG 4 (fun cal X P' hk hX hP => ?_)
    show (8 ≤ v2 → X (26, [some (.ref 9), some (.ref 19), some (.int v2)], [], st S hs, 0, 0)) ∧ (¬ 8 ≤ v2 → X (8, [some (.ref 9), some (.ref 19), some (.int v2)], [], st S hs, 0, 0))
    refine ⟨fun hc => hX _ ?_, fun hc => hX _ ?_⟩
    · clear hP hX hk P' X cal
      rw [if_pos hc] at hl
      have hl := Option.some.inj hl
      subst hl
      exact Wp.weak (leL.k (leL.k (leL.n leL.z))) (ct)
    · clear hP hX hk P' X cal
      rw [if_neg hc] at hl
      refine Wp.stepsG 4 (fun cal X P' hk hX hP => ?_)
      show (8 ≤ v2 → X (26, [some (.ref 9), some (.ref 19), some (.int v2)], [], st S hs, 0, 0)) ∧ (¬ 8 ≤ v2 → X (14, [some (.ref 9), some (.ref 19), some (.int v2)], [], st S hs, 0, 0))
      refine ⟨fun hc => hX _ ?_, fun hc => hX _ ?_⟩
      · clear hP hX hk P' X cal
        rw [if_pos hc] at hl
        have hl := Option.some.inj hl
        subst hl
        exact Wp.weak (leL.k (leL.k (leL.n leL.z))) (ct)
      · clear hP hX hk P' X cal
        rw [if_neg hc] at hl
        refine Wp.stepsG 5 (fun cal X P' hk hX hP => ?_)
        show vp_in v2 8 ∧ X (19, [some (.ref 9), some (.ref 19), some (.int v2)], [.int ((S.1 9) v2.toNatClampNeg), .int v2, .ref 19], st S hs, 0, 0)
        obtain ⟨hg, hl⟩ := gd_some hl
        refine ⟨hg, hX _ ?_⟩
        clear hP hX hk P' X cal
        refine Wp.stepsG 1 (fun cal X P' hk hX hP => ?_)
        show vp_in v2 8 ∧ X (20, [some (.ref 9), some (.ref 19), some (.int v2)], [], st (sA S 19 (upd (S.1 19) v2.toNatClampNeg ((S.1 9) v2.toNatClampNeg))) hs, 0, 0)
        obtain ⟨hg, hl⟩ := gd_some hl
        refine ⟨hg, hX _ ?_⟩
        clear hP hX hk P' X cal
        refine Wp.stepsG 2 (fun cal X P' hk hX hP => ?_)
        show X (2, [some (.ref 9), some (.ref 19), some (.int (v2 + 1))], [], st (sA S 19 (upd (S.1 19) v2.toNatClampNeg ((S.1 9) v2.toNatClampNeg))) hs, 0, 0)
        refine hX _ ?_
        exact (ih (v2 + 1) (sA S 19 (upd (S.1 19) v2.toNatClampNeg ((S.1 9) v2.toNatClampNeg))) q hl ct)
def r_X11_copy_9_19 (S : St) : Option (Int32 × St) :=
  (lp_X11_copy_9_19_2 4000 0 S).bind fun q1 =>
    some (0, q1)
set_option maxRecDepth 20000 in
set_option maxHeartbeats 4000000 in
theorem e_X11_copy_9_19 (d : Nat) (S : St) (hs : List Hr) (v : Int32 × St) (hr : r_X11_copy_9_19 S = some v) (P : Option Value → Hp → Prop) (h : P none (st v.2 hs)) : Ev (d + 1) ix_X11_copy 0 0 [.ref 9, .ref 19] (st S hs) P := by
  refine Ev.intro (M := mi_X11_copy) rfl (Nat.le_of_ble_eq_true rfl) ?_
  unfold r_X11_copy_9_19 at hr
  refine Wp.stepsG 2 (fun cal X P' hk hX hP => ?_)
  show X (2, [some (.ref 9), some (.ref 19), some (.int 0)], [], st S hs, 0, 0)
  refine hX _ ?_
  clear hP hX hk P' X cal
  obtain ⟨q1, hq1, hr⟩ := bd_some hr
  refine (e_lp_X11_copy_9_19_2 d hs P _ 0 S q1 hq1 ?_)
  have hr := Option.some.inj hr
  subst hr
  refine Wp.stepsG 1 (fun cal X P' hk hX hP => ?_)
  exact hP _ _ h
def lp_X11_copy_10_20_2 : Nat → Int32 → St → Option (St)
  | 0, _, _ => none
  | n + 1, v2, S =>
    if 8 ≤ v2 then
      some S
    else
      if 8 ≤ v2 then
        some S
      else
        gd (¬ (v2 < 0 ∨ 8 ≤ v2.toNatClampNeg)) (
          gd (¬ (v2 < 0 ∨ 8 ≤ v2.toNatClampNeg)) (
            lp_X11_copy_10_20_2 n (v2 + 1) (sA S 20 (upd (S.1 20) v2.toNatClampNeg ((S.1 10) v2.toNatClampNeg)))))
set_option maxRecDepth 20000 in
set_option maxHeartbeats 4000000 in
theorem e_lp_X11_copy_10_20_2 (d : Nat) (hs : List Hr) (P : Option Value → Hp → Prop) : ∀ (n : Nat) (v2 : Int32) (S : St) (q : St), lp_X11_copy_10_20_2 n v2 S = some q → (WM mi_X11_copy (d + 0) P 26 [some (.ref 10), some (.ref 20), none] [] (st q hs)) → WM mi_X11_copy (d + 0) P 2 [some (.ref 10), some (.ref 20), some (.int v2)] [] (st S hs) := by
  intro n
  induction n with
  | zero =>
    intro v2 S q hl
    cases hl
  | succ n ih =>
    intro v2 S q hl ct
    rw [lp_X11_copy_10_20_2] at hl
    refine Wp.stepsG 4 (fun cal X P' hk hX hP => ?_)
    show (8 ≤ v2 → X (26, [some (.ref 10), some (.ref 20), some (.int v2)], [], st S hs, 0, 0)) ∧ (¬ 8 ≤ v2 → X (8, [some (.ref 10), some (.ref 20), some (.int v2)], [], st S hs, 0, 0))
    refine ⟨fun hc => hX _ ?_, fun hc => hX _ ?_⟩
    · clear hP hX hk P' X cal
      rw [if_pos hc] at hl
      have hl := Option.some.inj hl
      subst hl
      exact Wp.weak (leL.k (leL.k (leL.n leL.z))) (ct)
    · clear hP hX hk P' X cal
      rw [if_neg hc] at hl
      refine Wp.stepsG 4 (fun cal X P' hk hX hP => ?_)
      show (8 ≤ v2 → X (26, [some (.ref 10), some (.ref 20), some (.int v2)], [], st S hs, 0, 0)) ∧ (¬ 8 ≤ v2 → X (14, [some (.ref 10), some (.ref 20), some (.int v2)], [], st S hs, 0, 0))
      refine ⟨fun hc => hX _ ?_, fun hc => hX _ ?_⟩
      · clear hP hX hk P' X cal
        rw [if_pos hc] at hl
        have hl := Option.some.inj hl
        subst hl
        exact Wp.weak (leL.k (leL.k (leL.n leL.z))) (ct)
      · clear hP hX hk P' X cal
        rw [if_neg hc] at hl
        refine Wp.stepsG 5 (fun cal X P' hk hX hP => ?_)
        show vp_in v2 8 ∧ X (19, [some (.ref 10), some (.ref 20), some (.int v2)], [.int ((S.1 10) v2.toNatClampNeg), .int v2, .ref 20], st S hs, 0, 0)
        obtain ⟨hg, hl⟩ := gd_some hl
        refine ⟨hg, hX _ ?_⟩
        clear hP hX hk P' X cal
        refine Wp.stepsG 1 (fun cal X P' hk hX hP => ?_)
        show vp_in v2 8 ∧ X (20, [some (.ref 10), some (.ref 20), some (.int v2)], [], st (sA S 20 (upd (S.1 20) v2.toNatClampNeg ((S.1 10) v2.toNatClampNeg))) hs, 0, 0)
        obtain ⟨hg, hl⟩ := gd_some hl
        refine ⟨hg, hX _ ?_⟩
        clear hP hX hk P' X cal
        refine Wp.stepsG 2 (fun cal X P' hk hX hP => ?_)
        show X (2, [some (.ref 10), some (.ref 20), some (.int (v2 + 1))], [], st (sA S 20 (upd (S.1 20) v2.toNatClampNeg ((S.1 10) v2.toNatClampNeg))) hs, 0, 0)
        refine hX _ ?_
        exact (ih (v2 + 1) (sA S 20 (upd (S.1 20) v2.toNatClampNeg ((S.1 10) v2.toNatClampNeg))) q hl ct)
def r_X11_copy_10_20 (S : St) : Option (Int32 × St) :=
  (lp_X11_copy_10_20_2 4000 0 S).bind fun q1 =>
    some (0, q1)
set_option maxRecDepth 20000 in
set_option maxHeartbeats 4000000 in
theorem e_X11_copy_10_20 (d : Nat) (S : St) (hs : List Hr) (v : Int32 × St) (hr : r_X11_copy_10_20 S = some v) (P : Option Value → Hp → Prop) (h : P none (st v.2 hs)) : Ev (d + 1) ix_X11_copy 0 0 [.ref 10, .ref 20] (st S hs) P := by
  refine Ev.intro (M := mi_X11_copy) rfl (Nat.le_of_ble_eq_true rfl) ?_
  unfold r_X11_copy_10_20 at hr
  refine Wp.stepsG 2 (fun cal X P' hk hX hP => ?_)
  show X (2, [some (.ref 10), some (.ref 20), some (.int 0)], [], st S hs, 0, 0)
  refine hX _ ?_
  clear hP hX hk P' X cal
  obtain ⟨q1, hq1, hr⟩ := bd_some hr
  refine (e_lp_X11_copy_10_20_2 d hs P _ 0 S q1 hq1 ?_)
  have hr := Option.some.inj hr
  subst hr
  refine Wp.stepsG 1 (fun cal X P' hk hX hP => ?_)
  exact hP _ _ h
def lp_X11_copy_19_9_2 : Nat → Int32 → St → Option (St)
  | 0, _, _ => none
  | n + 1, v2, S =>
    if 8 ≤ v2 then
      some S
    else
      if 8 ≤ v2 then
        some S
      else
        gd (¬ (v2 < 0 ∨ 8 ≤ v2.toNatClampNeg)) (
          gd (¬ (v2 < 0 ∨ 8 ≤ v2.toNatClampNeg)) (
            lp_X11_copy_19_9_2 n (v2 + 1) (sA S 9 (upd (S.1 9) v2.toNatClampNeg ((S.1 19) v2.toNatClampNeg)))))
set_option maxRecDepth 20000 in
set_option maxHeartbeats 4000000 in
theorem e_lp_X11_copy_19_9_2 (d : Nat) (hs : List Hr) (P : Option Value → Hp → Prop) : ∀ (n : Nat) (v2 : Int32) (S : St) (q : St), lp_X11_copy_19_9_2 n v2 S = some q → (WM mi_X11_copy (d + 0) P 26 [some (.ref 19), some (.ref 9), none] [] (st q hs)) → WM mi_X11_copy (d + 0) P 2 [some (.ref 19), some (.ref 9), some (.int v2)] [] (st S hs) := by
  intro n
  induction n with
  | zero =>
    intro v2 S q hl
    cases hl
  | succ n ih =>
    intro v2 S q hl ct
    rw [lp_X11_copy_19_9_2] at hl
    refine Wp.stepsG 4 (fun cal X P' hk hX hP => ?_)
    show (8 ≤ v2 → X (26, [some (.ref 19), some (.ref 9), some (.int v2)], [], st S hs, 0, 0)) ∧ (¬ 8 ≤ v2 → X (8, [some (.ref 19), some (.ref 9), some (.int v2)], [], st S hs, 0, 0))
    refine ⟨fun hc => hX _ ?_, fun hc => hX _ ?_⟩
    · clear hP hX hk P' X cal
      rw [if_pos hc] at hl
      have hl := Option.some.inj hl
      subst hl
      exact Wp.weak (leL.k (leL.k (leL.n leL.z))) (ct)
    · clear hP hX hk P' X cal
      rw [if_neg hc] at hl
      refine Wp.stepsG 4 (fun cal X P' hk hX hP => ?_)
      show (8 ≤ v2 → X (26, [some (.ref 19), some (.ref 9), some (.int v2)], [], st S hs, 0, 0)) ∧ (¬ 8 ≤ v2 → X (14, [some (.ref 19), some (.ref 9), some (.int v2)], [], st S hs, 0, 0))
      refine ⟨fun hc => hX _ ?_, fun hc => hX _ ?_⟩
      · clear hP hX hk P' X cal
        rw [if_pos hc] at hl
        have hl := Option.some.inj hl
        subst hl
        exact Wp.weak (leL.k (leL.k (leL.n leL.z))) (ct)
      · clear hP hX hk P' X cal
        rw [if_neg hc] at hl
        refine Wp.stepsG 5 (fun cal X P' hk hX hP => ?_)
        show vp_in v2 8 ∧ X (19, [some (.ref 19), some (.ref 9), some (.int v2)], [.int ((S.1 19) v2.toNatClampNeg), .int v2, .ref 9], st S hs, 0, 0)
        obtain ⟨hg, hl⟩ := gd_some hl
        refine ⟨hg, hX _ ?_⟩
        clear hP hX hk P' X cal
        refine Wp.stepsG 1 (fun cal X P' hk hX hP => ?_)
        show vp_in v2 8 ∧ X (20, [some (.ref 19), some (.ref 9), some (.int v2)], [], st (sA S 9 (upd (S.1 9) v2.toNatClampNeg ((S.1 19) v2.toNatClampNeg))) hs, 0, 0)
        obtain ⟨hg, hl⟩ := gd_some hl
        refine ⟨hg, hX _ ?_⟩
        clear hP hX hk P' X cal
        refine Wp.stepsG 2 (fun cal X P' hk hX hP => ?_)
        show X (2, [some (.ref 19), some (.ref 9), some (.int (v2 + 1))], [], st (sA S 9 (upd (S.1 9) v2.toNatClampNeg ((S.1 19) v2.toNatClampNeg))) hs, 0, 0)
        refine hX _ ?_
        exact (ih (v2 + 1) (sA S 9 (upd (S.1 9) v2.toNatClampNeg ((S.1 19) v2.toNatClampNeg))) q hl ct)
def r_X11_copy_19_9 (S : St) : Option (Int32 × St) :=
  (lp_X11_copy_19_9_2 4000 0 S).bind fun q1 =>
    some (0, q1)
set_option maxRecDepth 20000 in
set_option maxHeartbeats 4000000 in
theorem e_X11_copy_19_9 (d : Nat) (S : St) (hs : List Hr) (v : Int32 × St) (hr : r_X11_copy_19_9 S = some v) (P : Option Value → Hp → Prop) (h : P none (st v.2 hs)) : Ev (d + 1) ix_X11_copy 0 0 [.ref 19, .ref 9] (st S hs) P := by
  refine Ev.intro (M := mi_X11_copy) rfl (Nat.le_of_ble_eq_true rfl) ?_
  unfold r_X11_copy_19_9 at hr
  refine Wp.stepsG 2 (fun cal X P' hk hX hP => ?_)
  show X (2, [some (.ref 19), some (.ref 9), some (.int 0)], [], st S hs, 0, 0)
  refine hX _ ?_
  clear hP hX hk P' X cal
  obtain ⟨q1, hq1, hr⟩ := bd_some hr
  refine (e_lp_X11_copy_19_9_2 d hs P _ 0 S q1 hq1 ?_)
  have hr := Option.some.inj hr
  subst hr
  refine Wp.stepsG 1 (fun cal X P' hk hX hP => ?_)
  exact hP _ _ h
def lp_X11_copy_20_10_2 : Nat → Int32 → St → Option (St)
  | 0, _, _ => none
  | n + 1, v2, S =>
    if 8 ≤ v2 then
      some S
    else
      if 8 ≤ v2 then
        some S
      else
        gd (¬ (v2 < 0 ∨ 8 ≤ v2.toNatClampNeg)) (
          gd (¬ (v2 < 0 ∨ 8 ≤ v2.toNatClampNeg)) (
            lp_X11_copy_20_10_2 n (v2 + 1) (sA S 10 (upd (S.1 10) v2.toNatClampNeg ((S.1 20) v2.toNatClampNeg)))))
set_option maxRecDepth 20000 in
set_option maxHeartbeats 4000000 in
theorem e_lp_X11_copy_20_10_2 (d : Nat) (hs : List Hr) (P : Option Value → Hp → Prop) : ∀ (n : Nat) (v2 : Int32) (S : St) (q : St), lp_X11_copy_20_10_2 n v2 S = some q → (WM mi_X11_copy (d + 0) P 26 [some (.ref 20), some (.ref 10), none] [] (st q hs)) → WM mi_X11_copy (d + 0) P 2 [some (.ref 20), some (.ref 10), some (.int v2)] [] (st S hs) := by
  intro n
  induction n with
  | zero =>
    intro v2 S q hl
    cases hl
  | succ n ih =>
    intro v2 S q hl ct
    rw [lp_X11_copy_20_10_2] at hl
    refine Wp.stepsG 4 (fun cal X P' hk hX hP => ?_)
    show (8 ≤ v2 → X (26, [some (.ref 20), some (.ref 10), some (.int v2)], [], st S hs, 0, 0)) ∧ (¬ 8 ≤ v2 → X (8, [some (.ref 20), some (.ref 10), some (.int v2)], [], st S hs, 0, 0))
    refine ⟨fun hc => hX _ ?_, fun hc => hX _ ?_⟩
    · clear hP hX hk P' X cal
      rw [if_pos hc] at hl
      have hl := Option.some.inj hl
      subst hl
      exact Wp.weak (leL.k (leL.k (leL.n leL.z))) (ct)
    · clear hP hX hk P' X cal
      rw [if_neg hc] at hl
      refine Wp.stepsG 4 (fun cal X P' hk hX hP => ?_)
      show (8 ≤ v2 → X (26, [some (.ref 20), some (.ref 10), some (.int v2)], [], st S hs, 0, 0)) ∧ (¬ 8 ≤ v2 → X (14, [some (.ref 20), some (.ref 10), some (.int v2)], [], st S hs, 0, 0))
      refine ⟨fun hc => hX _ ?_, fun hc => hX _ ?_⟩
      · clear hP hX hk P' X cal
        rw [if_pos hc] at hl
        have hl := Option.some.inj hl
        subst hl
        exact Wp.weak (leL.k (leL.k (leL.n leL.z))) (ct)
      · clear hP hX hk P' X cal
        rw [if_neg hc] at hl
        refine Wp.stepsG 5 (fun cal X P' hk hX hP => ?_)
        show vp_in v2 8 ∧ X (19, [some (.ref 20), some (.ref 10), some (.int v2)], [.int ((S.1 20) v2.toNatClampNeg), .int v2, .ref 10], st S hs, 0, 0)
        obtain ⟨hg, hl⟩ := gd_some hl
        refine ⟨hg, hX _ ?_⟩
        clear hP hX hk P' X cal
        refine Wp.stepsG 1 (fun cal X P' hk hX hP => ?_)
        show vp_in v2 8 ∧ X (20, [some (.ref 20), some (.ref 10), some (.int v2)], [], st (sA S 10 (upd (S.1 10) v2.toNatClampNeg ((S.1 20) v2.toNatClampNeg))) hs, 0, 0)
        obtain ⟨hg, hl⟩ := gd_some hl
        refine ⟨hg, hX _ ?_⟩
        clear hP hX hk P' X cal
        refine Wp.stepsG 2 (fun cal X P' hk hX hP => ?_)
        show X (2, [some (.ref 20), some (.ref 10), some (.int (v2 + 1))], [], st (sA S 10 (upd (S.1 10) v2.toNatClampNeg ((S.1 20) v2.toNatClampNeg))) hs, 0, 0)
        refine hX _ ?_
        exact (ih (v2 + 1) (sA S 10 (upd (S.1 10) v2.toNatClampNeg ((S.1 20) v2.toNatClampNeg))) q hl ct)
def r_X11_copy_20_10 (S : St) : Option (Int32 × St) :=
  (lp_X11_copy_20_10_2 4000 0 S).bind fun q1 =>
    some (0, q1)
set_option maxRecDepth 20000 in
set_option maxHeartbeats 4000000 in
theorem e_X11_copy_20_10 (d : Nat) (S : St) (hs : List Hr) (v : Int32 × St) (hr : r_X11_copy_20_10 S = some v) (P : Option Value → Hp → Prop) (h : P none (st v.2 hs)) : Ev (d + 1) ix_X11_copy 0 0 [.ref 20, .ref 10] (st S hs) P := by
  refine Ev.intro (M := mi_X11_copy) rfl (Nat.le_of_ble_eq_true rfl) ?_
  unfold r_X11_copy_20_10 at hr
  refine Wp.stepsG 2 (fun cal X P' hk hX hP => ?_)
  show X (2, [some (.ref 20), some (.ref 10), some (.int 0)], [], st S hs, 0, 0)
  refine hX _ ?_
  clear hP hX hk P' X cal
  obtain ⟨q1, hq1, hr⟩ := bd_some hr
  refine (e_lp_X11_copy_20_10_2 d hs P _ 0 S q1 hq1 ?_)
  have hr := Option.some.inj hr
  subst hr
  refine Wp.stepsG 1 (fun cal X P' hk hX hP => ?_)
  exact hP _ _ h
def r_X10_clear_30 (S : St) : Option (Int32 × St) :=
  some (0, sI S 30 1 0)
set_option maxRecDepth 20000 in
set_option maxHeartbeats 4000000 in
theorem e_X10_clear_30 (d : Nat) (S : St) (hs : List Hr) (v : Int32 × St) (hr : r_X10_clear_30 S = some v) (P : Option Value → Hp → Prop) (h : P none (st v.2 hs)) : Ev (d + 1) ix_X10_clear 0 0 [.ref 30] (st S hs) P := by
  refine Ev.intro (M := mi_X10_clear) rfl (Nat.le_of_ble_eq_true rfl) ?_
  unfold r_X10_clear_30 at hr
  have hr := Option.some.inj hr
  subst hr
  refine Wp.stepsG 4 (fun cal X P' hk hX hP => ?_)
  exact hP _ _ h
def r_X10_keptBodies_30 (S : St) : Int32 :=
  if 20 < (S.1 30 1) then 20 else (S.1 30 1)
set_option maxRecDepth 20000 in
set_option maxHeartbeats 4000000 in
theorem e_X10_keptBodies_30 (d : Nat) (S : St) (hs : List Hr) (P : Option Value → Hp → Prop) (h : P (some (.int (r_X10_keptBodies_30 S))) (st S hs)) : Ev (d + 1) ix_X10_keptBodies 0 0 [.ref 30] (st S hs) P := by
  refine Ev.intro (M := mi_X10_keptBodies) rfl (Nat.le_of_ble_eq_true rfl) ?_
  unfold r_X10_keptBodies_30 at h
  refine Wp.stepsG 7 (fun cal X P' hk hX hP => ?_)
  exact hP _ _ h
def r_X11_trace (S : St) (a1 : Int32) : Option Int32 :=
  if (r_X11_within a1 0 ((r_X10_keptBodies_30 S) - 1)) = 0 then
    some (-1)
  else
    gd (¬ (a1 < 0 ∨ 20 ≤ a1.toNatClampNeg)) (
      some ((S.1 31) a1.toNatClampNeg))
set_option maxRecDepth 20000 in
set_option maxHeartbeats 4000000 in
theorem e_X11_trace (d : Nat) (S : St) (hs : List Hr) (a1 : Int32) (v : Int32) (hr : r_X11_trace S a1 = some v) (P : Option Value → Hp → Prop) (h : P (some (.int v)) (st S hs)) : Ev (d + 2) ix_X11_trace 0 0 [.ref 7, .int a1] (st S hs) P := by
  refine Ev.intro (M := mi_X11_trace) rfl (Nat.le_of_ble_eq_true rfl) ?_
  unfold r_X11_trace at hr
  refine Wp.stepsG 5 (fun cal X P' hk hX hP => ?_)
  show kcall cal ix_X10_keptBodies [.ref 30] (st S hs) [.int 0, .int a1] 0 0 (0, 0) (fun v σ' c' m' => X (9, [some (.ref 7), some (.int a1)], v.toList ++ [.int 0, .int a1], σ', c', m'))
  refine kcall0 rfl (hk _ _ _ _ _ _ (e_X10_keptBodies_30 (d + 0) S hs _ ?_))
  show X (9, [some (.ref 7), some (.int a1)], [.int (r_X10_keptBodies_30 S), .int 0, .int a1], st S hs, 0, 0)
  refine hX _ ?_
  clear hP hX hk P' X cal
  refine Wp.stepsG 3 (fun cal X P' hk hX hP => ?_)
  show kcall cal ix_X11_within [.int a1, .int 0, .int ((r_X10_keptBodies_30 S) - 1)] (st S hs) [] 0 0 (0, 0) (fun v σ' c' m' => X (14, [some (.ref 7), some (.int a1)], v.toList ++ [], σ', c', m'))
  refine kcall0 rfl (hk _ _ _ _ _ _ (e_X11_within (d + 0) S hs a1 0 ((r_X10_keptBodies_30 S) - 1) _ ?_))
  show X (14, [some (.ref 7), some (.int a1)], [.int (r_X11_within a1 0 ((r_X10_keptBodies_30 S) - 1))], st S hs, 0, 0)
  refine hX _ ?_
  clear hP hX hk P' X cal
  refine Wp.stepsG 1 (fun cal X P' hk hX hP => ?_)
  show ((r_X11_within a1 0 ((r_X10_keptBodies_30 S) - 1)) = 0 → X (29, [some (.ref 7), some (.int a1)], [], st S hs, 0, 0)) ∧ (¬ (r_X11_within a1 0 ((r_X10_keptBodies_30 S) - 1)) = 0 → X (17, [some (.ref 7), some (.int a1)], [], st S hs, 0, 0))
  refine ⟨fun hc => hX _ ?_, fun hc => hX _ ?_⟩
  · clear hP hX hk P' X cal
    rw [if_pos hc] at hr
    have hr := Option.some.inj hr
    subst hr
    refine Wp.stepsG 2 (fun cal X P' hk hX hP => ?_)
    exact hP _ _ h
  · clear hP hX hk P' X cal
    rw [if_neg hc] at hr
    refine Wp.stepsG 5 (fun cal X P' hk hX hP => ?_)
    show vp_in a1 20 ∧ X (26, [some (.ref 7), some (.int a1)], [.int ((S.1 31) a1.toNatClampNeg)], st S hs, 0, 0)
    obtain ⟨hg, hr⟩ := gd_some hr
    refine ⟨hg, hX _ ?_⟩
    clear hP hX hk P' X cal
    have hr := Option.some.inj hr
    subst hr
    refine Wp.stepsG 2 (fun cal X P' hk hX hP => ?_)
    exact hP _ _ h
def r_X11_count (S : St) (a1 : Int32) : Int32 :=
  if a1 = 0 then
    S.1 8 3
  else
  if a1 = 1 then
    S.1 8 2
  else
  if a1 = 2 then
    S.1 7 6
  else
  if a1 = 3 then
    S.1 8 4
  else
  if a1 = 4 then
    S.1 8 5
  else
  if a1 = 5 then
    S.1 7 4
  else
  if a1 = 6 then
    S.1 30 1
  else
    (-2)
set_option maxRecDepth 20000 in
set_option maxHeartbeats 4000000 in
theorem e_X11_count (d : Nat) (S : St) (hs : List Hr) (a1 : Int32) (P : Option Value → Hp → Prop) (h : P (some (.int (r_X11_count S a1))) (st S hs)) : Ev (d + 1) ix_X11_count 0 0 [.ref 7, .int a1] (st S hs) P := by
  refine Ev.intro (M := mi_X11_count) rfl (Nat.le_of_ble_eq_true rfl) ?_
  unfold r_X11_count at h
  refine Wp.stepsG 2 (fun cal X P' hk hX hP => ?_)
  show (a1 = 0 → X (44, [some (.ref 7), some (.int a1)], [], st S hs, 0, 0)) ∧ (¬ a1 = 0 → (a1 = 1 → X (52, [some (.ref 7), some (.int a1)], [], st S hs, 0, 0)) ∧ (¬ a1 = 1 → (a1 = 2 → X (60, [some (.ref 7), some (.int a1)], [], st S hs, 0, 0)) ∧ (¬ a1 = 2 → (a1 = 3 → X (65, [some (.ref 7), some (.int a1)], [], st S hs, 0, 0)) ∧ (¬ a1 = 3 → (a1 = 4 → X (73, [some (.ref 7), some (.int a1)], [], st S hs, 0, 0)) ∧ (¬ a1 = 4 → (a1 = 5 → X (81, [some (.ref 7), some (.int a1)], [], st S hs, 0, 0)) ∧ (¬ a1 = 5 → (a1 = 6 → X (86, [some (.ref 7), some (.int a1)], [], st S hs, 0, 0)) ∧ (¬ a1 = 6 → X (94, [some (.ref 7), some (.int a1)], [], st S hs, 0, 0))))))))
  refine ⟨fun hc => hX _ ?_, fun hc => ?_⟩
  · clear hP hX hk P' X cal
    rw [if_pos hc] at h
    refine Wp.stepsG 4 (fun cal X P' hk hX hP => ?_)
    exact hP _ _ h
  · rw [if_neg hc] at h
    refine ⟨fun hc => hX _ ?_, fun hc => ?_⟩
    · clear hP hX hk P' X cal
      rw [if_pos hc] at h
      refine Wp.stepsG 4 (fun cal X P' hk hX hP => ?_)
      exact hP _ _ h
    · rw [if_neg hc] at h
      refine ⟨fun hc => hX _ ?_, fun hc => ?_⟩
      · clear hP hX hk P' X cal
        rw [if_pos hc] at h
        refine Wp.stepsG 3 (fun cal X P' hk hX hP => ?_)
        exact hP _ _ h
      · rw [if_neg hc] at h
        refine ⟨fun hc => hX _ ?_, fun hc => ?_⟩
        · clear hP hX hk P' X cal
          rw [if_pos hc] at h
          refine Wp.stepsG 4 (fun cal X P' hk hX hP => ?_)
          exact hP _ _ h
        · rw [if_neg hc] at h
          refine ⟨fun hc => hX _ ?_, fun hc => ?_⟩
          · clear hP hX hk P' X cal
            rw [if_pos hc] at h
            refine Wp.stepsG 4 (fun cal X P' hk hX hP => ?_)
            exact hP _ _ h
          · rw [if_neg hc] at h
            refine ⟨fun hc => hX _ ?_, fun hc => ?_⟩
            · clear hP hX hk P' X cal
              rw [if_pos hc] at h
              refine Wp.stepsG 3 (fun cal X P' hk hX hP => ?_)
              exact hP _ _ h
            · rw [if_neg hc] at h
              refine ⟨fun hc => hX _ ?_, fun hc => hX _ ?_⟩
              · clear hP hX hk P' X cal
                rw [if_pos hc] at h
                refine Wp.stepsG 4 (fun cal X P' hk hX hP => ?_)
                exact hP _ _ h
              · rw [if_neg hc] at h
                clear hP hX hk P' X cal
                refine Wp.stepsG 2 (fun cal X P' hk hX hP => ?_)
                exact hP _ _ h
def lp_X8_renew_24 (o : Nat) : Nat → Int32 → St → Option (St)
  | 0, _, _ => none
  | n + 1, v3, S =>
    if 60 ≤ v3 then
      some S
    else
      gd (¬ (v3 < 0 ∨ 60 ≤ v3.toNatClampNeg)) (
        lp_X8_renew_24 o n (v3 + 1) (sG S (o + 1) (vp_updL (S.2.1 (o + 1)) v3.toNatClampNeg 0)))
def r_X8_renew (S : St) (o : Nat) (a1 : Int32) (a2 : Int32) : Option (Int32 × St) :=
  (lp_X8_renew_24 o 4000 0 (sI (sI S o 1 a1) o 2 (if (0 : Int32) < (if 60 < a2 then 60 else a2) then (if 60 < a2 then 60 else a2) else (0 : Int32)))).bind fun q1 =>
    some (0, q1)
set_option maxRecDepth 20000 in
set_option maxHeartbeats 4000000 in
theorem e_lp_X8_renew_24_64 (d : Nat) (hs : List Hr) (P : Option Value → Hp → Prop) : ∀ (n : Nat) (v3 : Int32) (S : St) (q : St), lp_X8_renew_24 64 n v3 S = some q → (WM mi_X8_renew (d + 0) P 46 [some (.ref 64), none, none, none] [] (st q hs)) → WM mi_X8_renew (d + 0) P 24 [some (.ref 64), none, none, some (.int v3)] [] (st S hs) := by
  intro n
  induction n with
  | zero =>
    intro v3 S q hl
    cases hl
  | succ n ih =>
    intro v3 S q hl ct
    rw [lp_X8_renew_24] at hl
    refine Wp.stepsG 5 (fun cal X P' hk hX hP => ?_)
    show (60 ≤ v3 → X (46, [some (.ref 64), none, none, some (.int v3)], [], st S hs, 0, 0)) ∧ (¬ 60 ≤ v3 → X (33, [some (.ref 64), none, none, some (.int v3)], [], st S hs, 0, 0))
    refine ⟨fun hc => hX _ ?_, fun hc => hX _ ?_⟩
    · clear hP hX hk P' X cal
      rw [if_pos hc] at hl
      have hl := Option.some.inj hl
      subst hl
      exact Wp.weak (leL.k (leL.k (leL.k (leL.n leL.z)))) (ct)
    · clear hP hX hk P' X cal
      rw [if_neg hc] at hl
      refine Wp.stepsG 5 (fun cal X P' hk hX hP => ?_)
      show vp_in v3 60 ∧ X (40, [some (.ref 64), none, none, some (.int v3)], [], st (sG S 65 (vp_updL (S.2.1 65) v3.toNatClampNeg 0)) hs, 0, 0)
      obtain ⟨hg, hl⟩ := gd_some hl
      refine ⟨hg, hX _ ?_⟩
      clear hP hX hk P' X cal
      refine Wp.stepsG 2 (fun cal X P' hk hX hP => ?_)
      show X (24, [some (.ref 64), none, none, some (.int (v3 + 1))], [], st (sG S 65 (vp_updL (S.2.1 65) v3.toNatClampNeg 0)) hs, 0, 0)
      refine hX _ ?_
      exact (ih (v3 + 1) (sG S 65 (vp_updL (S.2.1 65) v3.toNatClampNeg 0)) q hl ct)
set_option maxRecDepth 20000 in
set_option maxHeartbeats 4000000 in
theorem e_X8_renew_64 (d : Nat) (S : St) (hs : List Hr) (a1 : Int32) (a2 : Int32) (v : Int32 × St) (hr : r_X8_renew S 64 a1 a2 = some v) (P : Option Value → Hp → Prop) (h : P none (st v.2 hs)) : Ev (d + 1) ix_X8_renew 0 0 [.ref 64, .int a1, .int a2] (st S hs) P := by
  refine Ev.intro (M := mi_X8_renew) rfl (Nat.le_of_ble_eq_true rfl) ?_
  unfold r_X8_renew at hr
  refine Wp.stepsG 14 (fun cal X P' hk hX hP => ?_)
  show X (24, [some (.ref 64), some (.int a1), some (.int a2), some (.int 0)], [], st (sI (sI S 64 1 a1) 64 2 (if (0 : Int32) < (if 60 < a2 then 60 else a2) then (if 60 < a2 then 60 else a2) else (0 : Int32))) hs, 0, 0)
  refine hX _ ?_
  clear hP hX hk P' X cal
  obtain ⟨q1, hq1, hr⟩ := bd_some hr
  refine Wp.weak (leL.k (leL.n (leL.n (leL.k leL.z)))) (e_lp_X8_renew_24_64 d hs P _ 0 (sI (sI S 64 1 a1) 64 2 (if (0 : Int32) < (if 60 < a2 then 60 else a2) then (if 60 < a2 then 60 else a2) else (0 : Int32))) q1 hq1 ?_)
  have hr := Option.some.inj hr
  subst hr
  refine Wp.stepsG 1 (fun cal X P' hk hX hP => ?_)
  exact hP _ _ h
set_option maxRecDepth 20000 in
set_option maxHeartbeats 4000000 in
theorem e_lp_X8_renew_24_66 (d : Nat) (hs : List Hr) (P : Option Value → Hp → Prop) : ∀ (n : Nat) (v3 : Int32) (S : St) (q : St), lp_X8_renew_24 66 n v3 S = some q → (WM mi_X8_renew (d + 0) P 46 [some (.ref 66), none, none, none] [] (st q hs)) → WM mi_X8_renew (d + 0) P 24 [some (.ref 66), none, none, some (.int v3)] [] (st S hs) := by
  intro n
  induction n with
  | zero =>
    intro v3 S q hl
    cases hl
  | succ n ih =>
    intro v3 S q hl ct
    rw [lp_X8_renew_24] at hl
    refine Wp.stepsG 5 (fun cal X P' hk hX hP => ?_)
    show (60 ≤ v3 → X (46, [some (.ref 66), none, none, some (.int v3)], [], st S hs, 0, 0)) ∧ (¬ 60 ≤ v3 → X (33, [some (.ref 66), none, none, some (.int v3)], [], st S hs, 0, 0))
    refine ⟨fun hc => hX _ ?_, fun hc => hX _ ?_⟩
    · clear hP hX hk P' X cal
      rw [if_pos hc] at hl
      have hl := Option.some.inj hl
      subst hl
      exact Wp.weak (leL.k (leL.k (leL.k (leL.n leL.z)))) (ct)
    · clear hP hX hk P' X cal
      rw [if_neg hc] at hl
      refine Wp.stepsG 5 (fun cal X P' hk hX hP => ?_)
      show vp_in v3 60 ∧ X (40, [some (.ref 66), none, none, some (.int v3)], [], st (sG S 67 (vp_updL (S.2.1 67) v3.toNatClampNeg 0)) hs, 0, 0)
      obtain ⟨hg, hl⟩ := gd_some hl
      refine ⟨hg, hX _ ?_⟩
      clear hP hX hk P' X cal
      refine Wp.stepsG 2 (fun cal X P' hk hX hP => ?_)
      show X (24, [some (.ref 66), none, none, some (.int (v3 + 1))], [], st (sG S 67 (vp_updL (S.2.1 67) v3.toNatClampNeg 0)) hs, 0, 0)
      refine hX _ ?_
      exact (ih (v3 + 1) (sG S 67 (vp_updL (S.2.1 67) v3.toNatClampNeg 0)) q hl ct)
set_option maxRecDepth 20000 in
set_option maxHeartbeats 4000000 in
theorem e_X8_renew_66 (d : Nat) (S : St) (hs : List Hr) (a1 : Int32) (a2 : Int32) (v : Int32 × St) (hr : r_X8_renew S 66 a1 a2 = some v) (P : Option Value → Hp → Prop) (h : P none (st v.2 hs)) : Ev (d + 1) ix_X8_renew 0 0 [.ref 66, .int a1, .int a2] (st S hs) P := by
  refine Ev.intro (M := mi_X8_renew) rfl (Nat.le_of_ble_eq_true rfl) ?_
  unfold r_X8_renew at hr
  refine Wp.stepsG 14 (fun cal X P' hk hX hP => ?_)
  show X (24, [some (.ref 66), some (.int a1), some (.int a2), some (.int 0)], [], st (sI (sI S 66 1 a1) 66 2 (if (0 : Int32) < (if 60 < a2 then 60 else a2) then (if 60 < a2 then 60 else a2) else (0 : Int32))) hs, 0, 0)
  refine hX _ ?_
  clear hP hX hk P' X cal
  obtain ⟨q1, hq1, hr⟩ := bd_some hr
  refine Wp.weak (leL.k (leL.n (leL.n (leL.k leL.z)))) (e_lp_X8_renew_24_66 d hs P _ 0 (sI (sI S 66 1 a1) 66 2 (if (0 : Int32) < (if 60 < a2 then 60 else a2) then (if 60 < a2 then 60 else a2) else (0 : Int32))) q1 hq1 ?_)
  have hr := Option.some.inj hr
  subst hr
  refine Wp.stepsG 1 (fun cal X P' hk hX hP => ?_)
  exact hP _ _ h
set_option maxRecDepth 20000 in
set_option maxHeartbeats 4000000 in
theorem e_lp_X8_renew_24_68 (d : Nat) (hs : List Hr) (P : Option Value → Hp → Prop) : ∀ (n : Nat) (v3 : Int32) (S : St) (q : St), lp_X8_renew_24 68 n v3 S = some q → (WM mi_X8_renew (d + 0) P 46 [some (.ref 68), none, none, none] [] (st q hs)) → WM mi_X8_renew (d + 0) P 24 [some (.ref 68), none, none, some (.int v3)] [] (st S hs) := by
  intro n
  induction n with
  | zero =>
    intro v3 S q hl
    cases hl
  | succ n ih =>
    intro v3 S q hl ct
    rw [lp_X8_renew_24] at hl
    refine Wp.stepsG 5 (fun cal X P' hk hX hP => ?_)
    show (60 ≤ v3 → X (46, [some (.ref 68), none, none, some (.int v3)], [], st S hs, 0, 0)) ∧ (¬ 60 ≤ v3 → X (33, [some (.ref 68), none, none, some (.int v3)], [], st S hs, 0, 0))
    refine ⟨fun hc => hX _ ?_, fun hc => hX _ ?_⟩
    · clear hP hX hk P' X cal
      rw [if_pos hc] at hl
      have hl := Option.some.inj hl
      subst hl
      exact Wp.weak (leL.k (leL.k (leL.k (leL.n leL.z)))) (ct)
    · clear hP hX hk P' X cal
      rw [if_neg hc] at hl
      refine Wp.stepsG 5 (fun cal X P' hk hX hP => ?_)
      show vp_in v3 60 ∧ X (40, [some (.ref 68), none, none, some (.int v3)], [], st (sG S 69 (vp_updL (S.2.1 69) v3.toNatClampNeg 0)) hs, 0, 0)
      obtain ⟨hg, hl⟩ := gd_some hl
      refine ⟨hg, hX _ ?_⟩
      clear hP hX hk P' X cal
      refine Wp.stepsG 2 (fun cal X P' hk hX hP => ?_)
      show X (24, [some (.ref 68), none, none, some (.int (v3 + 1))], [], st (sG S 69 (vp_updL (S.2.1 69) v3.toNatClampNeg 0)) hs, 0, 0)
      refine hX _ ?_
      exact (ih (v3 + 1) (sG S 69 (vp_updL (S.2.1 69) v3.toNatClampNeg 0)) q hl ct)
set_option maxRecDepth 20000 in
set_option maxHeartbeats 4000000 in
theorem e_X8_renew_68 (d : Nat) (S : St) (hs : List Hr) (a1 : Int32) (a2 : Int32) (v : Int32 × St) (hr : r_X8_renew S 68 a1 a2 = some v) (P : Option Value → Hp → Prop) (h : P none (st v.2 hs)) : Ev (d + 1) ix_X8_renew 0 0 [.ref 68, .int a1, .int a2] (st S hs) P := by
  refine Ev.intro (M := mi_X8_renew) rfl (Nat.le_of_ble_eq_true rfl) ?_
  unfold r_X8_renew at hr
  refine Wp.stepsG 14 (fun cal X P' hk hX hP => ?_)
  show X (24, [some (.ref 68), some (.int a1), some (.int a2), some (.int 0)], [], st (sI (sI S 68 1 a1) 68 2 (if (0 : Int32) < (if 60 < a2 then 60 else a2) then (if 60 < a2 then 60 else a2) else (0 : Int32))) hs, 0, 0)
  refine hX _ ?_
  clear hP hX hk P' X cal
  obtain ⟨q1, hq1, hr⟩ := bd_some hr
  refine Wp.weak (leL.k (leL.n (leL.n (leL.k leL.z)))) (e_lp_X8_renew_24_68 d hs P _ 0 (sI (sI S 68 1 a1) 68 2 (if (0 : Int32) < (if 60 < a2 then 60 else a2) then (if 60 < a2 then 60 else a2) else (0 : Int32))) q1 hq1 ?_)
  have hr := Option.some.inj hr
  subst hr
  refine Wp.stepsG 1 (fun cal X P' hk hX hP => ?_)
  exact hP _ _ h
set_option maxRecDepth 20000 in
set_option maxHeartbeats 4000000 in
theorem e_lp_X8_renew_24_70 (d : Nat) (hs : List Hr) (P : Option Value → Hp → Prop) : ∀ (n : Nat) (v3 : Int32) (S : St) (q : St), lp_X8_renew_24 70 n v3 S = some q → (WM mi_X8_renew (d + 0) P 46 [some (.ref 70), none, none, none] [] (st q hs)) → WM mi_X8_renew (d + 0) P 24 [some (.ref 70), none, none, some (.int v3)] [] (st S hs) := by
  intro n
  induction n with
  | zero =>
    intro v3 S q hl
    cases hl
  | succ n ih =>
    intro v3 S q hl ct
    rw [lp_X8_renew_24] at hl
    refine Wp.stepsG 5 (fun cal X P' hk hX hP => ?_)
    show (60 ≤ v3 → X (46, [some (.ref 70), none, none, some (.int v3)], [], st S hs, 0, 0)) ∧ (¬ 60 ≤ v3 → X (33, [some (.ref 70), none, none, some (.int v3)], [], st S hs, 0, 0))
    refine ⟨fun hc => hX _ ?_, fun hc => hX _ ?_⟩
    · clear hP hX hk P' X cal
      rw [if_pos hc] at hl
      have hl := Option.some.inj hl
      subst hl
      exact Wp.weak (leL.k (leL.k (leL.k (leL.n leL.z)))) (ct)
    · clear hP hX hk P' X cal
      rw [if_neg hc] at hl
      refine Wp.stepsG 5 (fun cal X P' hk hX hP => ?_)
      show vp_in v3 60 ∧ X (40, [some (.ref 70), none, none, some (.int v3)], [], st (sG S 71 (vp_updL (S.2.1 71) v3.toNatClampNeg 0)) hs, 0, 0)
      obtain ⟨hg, hl⟩ := gd_some hl
      refine ⟨hg, hX _ ?_⟩
      clear hP hX hk P' X cal
      refine Wp.stepsG 2 (fun cal X P' hk hX hP => ?_)
      show X (24, [some (.ref 70), none, none, some (.int (v3 + 1))], [], st (sG S 71 (vp_updL (S.2.1 71) v3.toNatClampNeg 0)) hs, 0, 0)
      refine hX _ ?_
      exact (ih (v3 + 1) (sG S 71 (vp_updL (S.2.1 71) v3.toNatClampNeg 0)) q hl ct)
set_option maxRecDepth 20000 in
set_option maxHeartbeats 4000000 in
theorem e_X8_renew_70 (d : Nat) (S : St) (hs : List Hr) (a1 : Int32) (a2 : Int32) (v : Int32 × St) (hr : r_X8_renew S 70 a1 a2 = some v) (P : Option Value → Hp → Prop) (h : P none (st v.2 hs)) : Ev (d + 1) ix_X8_renew 0 0 [.ref 70, .int a1, .int a2] (st S hs) P := by
  refine Ev.intro (M := mi_X8_renew) rfl (Nat.le_of_ble_eq_true rfl) ?_
  unfold r_X8_renew at hr
  refine Wp.stepsG 14 (fun cal X P' hk hX hP => ?_)
  show X (24, [some (.ref 70), some (.int a1), some (.int a2), some (.int 0)], [], st (sI (sI S 70 1 a1) 70 2 (if (0 : Int32) < (if 60 < a2 then 60 else a2) then (if 60 < a2 then 60 else a2) else (0 : Int32))) hs, 0, 0)
  refine hX _ ?_
  clear hP hX hk P' X cal
  obtain ⟨q1, hq1, hr⟩ := bd_some hr
  refine Wp.weak (leL.k (leL.n (leL.n (leL.k leL.z)))) (e_lp_X8_renew_24_70 d hs P _ 0 (sI (sI S 70 1 a1) 70 2 (if (0 : Int32) < (if 60 < a2 then 60 else a2) then (if 60 < a2 then 60 else a2) else (0 : Int32))) q1 hq1 ?_)
  have hr := Option.some.inj hr
  subst hr
  refine Wp.stepsG 1 (fun cal X P' hk hX hP => ?_)
  exact hP _ _ h
set_option maxRecDepth 20000 in
set_option maxHeartbeats 4000000 in
theorem e_lp_X8_renew_24_72 (d : Nat) (hs : List Hr) (P : Option Value → Hp → Prop) : ∀ (n : Nat) (v3 : Int32) (S : St) (q : St), lp_X8_renew_24 72 n v3 S = some q → (WM mi_X8_renew (d + 0) P 46 [some (.ref 72), none, none, none] [] (st q hs)) → WM mi_X8_renew (d + 0) P 24 [some (.ref 72), none, none, some (.int v3)] [] (st S hs) := by
  intro n
  induction n with
  | zero =>
    intro v3 S q hl
    cases hl
  | succ n ih =>
    intro v3 S q hl ct
    rw [lp_X8_renew_24] at hl
    refine Wp.stepsG 5 (fun cal X P' hk hX hP => ?_)
    show (60 ≤ v3 → X (46, [some (.ref 72), none, none, some (.int v3)], [], st S hs, 0, 0)) ∧ (¬ 60 ≤ v3 → X (33, [some (.ref 72), none, none, some (.int v3)], [], st S hs, 0, 0))
    refine ⟨fun hc => hX _ ?_, fun hc => hX _ ?_⟩
    · clear hP hX hk P' X cal
      rw [if_pos hc] at hl
      have hl := Option.some.inj hl
      subst hl
      exact Wp.weak (leL.k (leL.k (leL.k (leL.n leL.z)))) (ct)
    · clear hP hX hk P' X cal
      rw [if_neg hc] at hl
      refine Wp.stepsG 5 (fun cal X P' hk hX hP => ?_)
      show vp_in v3 60 ∧ X (40, [some (.ref 72), none, none, some (.int v3)], [], st (sG S 73 (vp_updL (S.2.1 73) v3.toNatClampNeg 0)) hs, 0, 0)
      obtain ⟨hg, hl⟩ := gd_some hl
      refine ⟨hg, hX _ ?_⟩
      clear hP hX hk P' X cal
      refine Wp.stepsG 2 (fun cal X P' hk hX hP => ?_)
      show X (24, [some (.ref 72), none, none, some (.int (v3 + 1))], [], st (sG S 73 (vp_updL (S.2.1 73) v3.toNatClampNeg 0)) hs, 0, 0)
      refine hX _ ?_
      exact (ih (v3 + 1) (sG S 73 (vp_updL (S.2.1 73) v3.toNatClampNeg 0)) q hl ct)
set_option maxRecDepth 20000 in
set_option maxHeartbeats 4000000 in
theorem e_X8_renew_72 (d : Nat) (S : St) (hs : List Hr) (a1 : Int32) (a2 : Int32) (v : Int32 × St) (hr : r_X8_renew S 72 a1 a2 = some v) (P : Option Value → Hp → Prop) (h : P none (st v.2 hs)) : Ev (d + 1) ix_X8_renew 0 0 [.ref 72, .int a1, .int a2] (st S hs) P := by
  refine Ev.intro (M := mi_X8_renew) rfl (Nat.le_of_ble_eq_true rfl) ?_
  unfold r_X8_renew at hr
  refine Wp.stepsG 14 (fun cal X P' hk hX hP => ?_)
  show X (24, [some (.ref 72), some (.int a1), some (.int a2), some (.int 0)], [], st (sI (sI S 72 1 a1) 72 2 (if (0 : Int32) < (if 60 < a2 then 60 else a2) then (if 60 < a2 then 60 else a2) else (0 : Int32))) hs, 0, 0)
  refine hX _ ?_
  clear hP hX hk P' X cal
  obtain ⟨q1, hq1, hr⟩ := bd_some hr
  refine Wp.weak (leL.k (leL.n (leL.n (leL.k leL.z)))) (e_lp_X8_renew_24_72 d hs P _ 0 (sI (sI S 72 1 a1) 72 2 (if (0 : Int32) < (if 60 < a2 then 60 else a2) then (if 60 < a2 then 60 else a2) else (0 : Int32))) q1 hq1 ?_)
  have hr := Option.some.inj hr
  subst hr
  refine Wp.stepsG 1 (fun cal X P' hk hX hP => ?_)
  exact hP _ _ h
set_option maxRecDepth 20000 in
set_option maxHeartbeats 4000000 in
theorem e_lp_X8_renew_24_74 (d : Nat) (hs : List Hr) (P : Option Value → Hp → Prop) : ∀ (n : Nat) (v3 : Int32) (S : St) (q : St), lp_X8_renew_24 74 n v3 S = some q → (WM mi_X8_renew (d + 0) P 46 [some (.ref 74), none, none, none] [] (st q hs)) → WM mi_X8_renew (d + 0) P 24 [some (.ref 74), none, none, some (.int v3)] [] (st S hs) := by
  intro n
  induction n with
  | zero =>
    intro v3 S q hl
    cases hl
  | succ n ih =>
    intro v3 S q hl ct
    rw [lp_X8_renew_24] at hl
    refine Wp.stepsG 5 (fun cal X P' hk hX hP => ?_)
    show (60 ≤ v3 → X (46, [some (.ref 74), none, none, some (.int v3)], [], st S hs, 0, 0)) ∧ (¬ 60 ≤ v3 → X (33, [some (.ref 74), none, none, some (.int v3)], [], st S hs, 0, 0))
    refine ⟨fun hc => hX _ ?_, fun hc => hX _ ?_⟩
    · clear hP hX hk P' X cal
      rw [if_pos hc] at hl
      have hl := Option.some.inj hl
      subst hl
      exact Wp.weak (leL.k (leL.k (leL.k (leL.n leL.z)))) (ct)
    · clear hP hX hk P' X cal
      rw [if_neg hc] at hl
      refine Wp.stepsG 5 (fun cal X P' hk hX hP => ?_)
      show vp_in v3 60 ∧ X (40, [some (.ref 74), none, none, some (.int v3)], [], st (sG S 75 (vp_updL (S.2.1 75) v3.toNatClampNeg 0)) hs, 0, 0)
      obtain ⟨hg, hl⟩ := gd_some hl
      refine ⟨hg, hX _ ?_⟩
      clear hP hX hk P' X cal
      refine Wp.stepsG 2 (fun cal X P' hk hX hP => ?_)
      show X (24, [some (.ref 74), none, none, some (.int (v3 + 1))], [], st (sG S 75 (vp_updL (S.2.1 75) v3.toNatClampNeg 0)) hs, 0, 0)
      refine hX _ ?_
      exact (ih (v3 + 1) (sG S 75 (vp_updL (S.2.1 75) v3.toNatClampNeg 0)) q hl ct)
set_option maxRecDepth 20000 in
set_option maxHeartbeats 4000000 in
theorem e_X8_renew_74 (d : Nat) (S : St) (hs : List Hr) (a1 : Int32) (a2 : Int32) (v : Int32 × St) (hr : r_X8_renew S 74 a1 a2 = some v) (P : Option Value → Hp → Prop) (h : P none (st v.2 hs)) : Ev (d + 1) ix_X8_renew 0 0 [.ref 74, .int a1, .int a2] (st S hs) P := by
  refine Ev.intro (M := mi_X8_renew) rfl (Nat.le_of_ble_eq_true rfl) ?_
  unfold r_X8_renew at hr
  refine Wp.stepsG 14 (fun cal X P' hk hX hP => ?_)
  show X (24, [some (.ref 74), some (.int a1), some (.int a2), some (.int 0)], [], st (sI (sI S 74 1 a1) 74 2 (if (0 : Int32) < (if 60 < a2 then 60 else a2) then (if 60 < a2 then 60 else a2) else (0 : Int32))) hs, 0, 0)
  refine hX _ ?_
  clear hP hX hk P' X cal
  obtain ⟨q1, hq1, hr⟩ := bd_some hr
  refine Wp.weak (leL.k (leL.n (leL.n (leL.k leL.z)))) (e_lp_X8_renew_24_74 d hs P _ 0 (sI (sI S 74 1 a1) 74 2 (if (0 : Int32) < (if 60 < a2 then 60 else a2) then (if 60 < a2 then 60 else a2) else (0 : Int32))) q1 hq1 ?_)
  have hr := Option.some.inj hr
  subst hr
  refine Wp.stepsG 1 (fun cal X P' hk hX hP => ?_)
  exact hP _ _ h
def r_X11_tape (S : St) (a1 : Int32) (a2 : Int32) (a3 : Int32) : Option (Int32 × St) :=
  (r_X11_tapeAt S a1).bind fun q1 =>
  oN (q1) (
    some ((-1), S)) (fun o =>
    if a2 = (-1) then
      (r_X8_renew S o (-1) 0).bind fun q3 =>
      some (1, q3.2)
    else
      if (r_X11_within a2 0 4) = 0 then
        some ((-2), S)
      else
        if a3 ≤ 60 then
          if 0 ≤ a3 then
            (r_X8_renew S o a2 a3).bind fun q2 =>
            some (1, q2.2)
          else
            some ((-14), S)
        else
          some ((-2), S))
set_option maxRecDepth 20000 in
set_option maxHeartbeats 4000000 in
theorem e_X11_tape (d : Nat) (S : St) (hs : List Hr) (a1 : Int32) (a2 : Int32) (a3 : Int32) (v : Int32 × St) (hr : r_X11_tape S a1 a2 a3 = some v) (P : Option Value → Hp → Prop) (h : P (some (.int v.1)) (st v.2 hs)) : Ev (d + 3) ix_X11_tape 0 0 [.ref 7, .int a1, .int a2, .int a3] (st S hs) P := by
  refine Ev.intro (M := mi_X11_tape) rfl (Nat.le_of_ble_eq_true rfl) ?_
  unfold r_X11_tape at hr
  refine Wp.stepsG 3 (fun cal X P' hk hX hP => ?_)
  show kcall cal ix_X11_tapeAt [.ref 7, .int a1] (st S hs) [] 0 0 (0, 0) (fun v σ' c' m' => X (5, [some (.ref 7), some (.int a1), some (.int a2), some (.int a3), none], v.toList ++ [], σ', c', m'))
  obtain ⟨q1, hq1, hr⟩ := bd_some hr
  refine kcall0 rfl (hk _ _ _ _ _ _ (e_X11_tapeAt (d + 0) S hs a1 q1 hq1 _ ?_))
  show X (5, [some (.ref 7), some (.int a1), some (.int a2), some (.int a3), none], [va_rf q1], st S hs, 0, 0)
  refine hX _ ?_
  clear hP hX hk P' X cal
  rcases c_X11_tapeAt hq1 with hz16 | hz16 | hz16 | hz16 | hz16 | hz16 | hz16
  · rw [hz16]
    rw [oN_no hz16] at hr
    have hr := Option.some.inj hr
    subst hr
    refine Wp.stepsG 5 (fun cal X P' hk hX hP => ?_)
    exact hP _ _ h
  · rw [hz16]
    rw [oN_is hz16] at hr
    refine Wp.stepsG 6 (fun cal X P' hk hX hP => ?_)
    show (¬ a2 = (-1) → X (28, [some (.ref 7), some (.int a1), some (.int a2), some (.int a3), some (.ref 64)], [], st S hs, 0, 0)) ∧ (a2 = (-1) → X (19, [some (.ref 7), some (.int a1), some (.int a2), some (.int a3), some (.ref 64)], [], st S hs, 0, 0))
    refine ⟨fun hc => hX _ ?_, fun hc => hX _ ?_⟩
    · clear hP hX hk P' X cal
      rw [if_neg hc] at hr
      refine Wp.stepsG 4 (fun cal X P' hk hX hP => ?_)
      show kcall cal ix_X11_within [.int a2, .int 0, .int 4] (st S hs) [] 0 0 (0, 0) (fun v σ' c' m' => X (34, [some (.ref 7), some (.int a1), some (.int a2), some (.int a3), some (.ref 64)], v.toList ++ [], σ', c', m'))
      refine kcall0 rfl (hk _ _ _ _ _ _ (e_X11_within (d + 1) S hs a2 0 4 _ ?_))
      show X (34, [some (.ref 7), some (.int a1), some (.int a2), some (.int a3), some (.ref 64)], [.int (r_X11_within a2 0 4)], st S hs, 0, 0)
      refine hX _ ?_
      clear hP hX hk P' X cal
      refine Wp.stepsG 1 (fun cal X P' hk hX hP => ?_)
      show ((r_X11_within a2 0 4) = 0 → X (43, [some (.ref 7), some (.int a1), some (.int a2), some (.int a3), some (.ref 64)], [], st S hs, 0, 0)) ∧ (¬ (r_X11_within a2 0 4) = 0 → X (37, [some (.ref 7), some (.int a1), some (.int a2), some (.int a3), some (.ref 64)], [], st S hs, 0, 0))
      refine ⟨fun hc => hX _ ?_, fun hc => hX _ ?_⟩
      · clear hP hX hk P' X cal
        rw [if_pos hc] at hr
        have hr := Option.some.inj hr
        subst hr
        refine Wp.stepsG 2 (fun cal X P' hk hX hP => ?_)
        exact hP _ _ h
      · clear hP hX hk P' X cal
        rw [if_neg hc] at hr
        refine Wp.stepsG 3 (fun cal X P' hk hX hP => ?_)
        show (a3 ≤ 60 → X (46, [some (.ref 7), some (.int a1), some (.int a2), some (.int a3), some (.ref 64)], [], st S hs, 0, 0)) ∧ (¬ a3 ≤ 60 → X (43, [some (.ref 7), some (.int a1), some (.int a2), some (.int a3), some (.ref 64)], [], st S hs, 0, 0))
        refine ⟨fun hc => hX _ ?_, fun hc => hX _ ?_⟩
        · clear hP hX hk P' X cal
          rw [if_pos hc] at hr
          refine Wp.stepsG 2 (fun cal X P' hk hX hP => ?_)
          show (0 ≤ a3 → X (53, [some (.ref 7), some (.int a1), some (.int a2), some (.int a3), some (.ref 64)], [], st S hs, 0, 0)) ∧ (¬ 0 ≤ a3 → X (50, [some (.ref 7), some (.int a1), some (.int a2), some (.int a3), some (.ref 64)], [], st S hs, 0, 0))
          refine ⟨fun hc => hX _ ?_, fun hc => hX _ ?_⟩
          · clear hP hX hk P' X cal
            rw [if_pos hc] at hr
            refine Wp.stepsG 4 (fun cal X P' hk hX hP => ?_)
            show kcall cal ix_X8_renew [.ref 64, .int a2, .int a3] (st S hs) [] 0 0 (0, 0) (fun v σ' c' m' => X (60, [some (.ref 7), some (.int a1), some (.int a2), some (.int a3), some (.ref 64)], v.toList ++ [], σ', c', m'))
            obtain ⟨q4, hq4, hr⟩ := bd_some hr
            refine kcall0 rfl (hk _ _ _ _ _ _ (e_X8_renew_64 (d + 1) S hs a2 a3 q4 hq4 _ ?_))
            show X (60, [some (.ref 7), some (.int a1), some (.int a2), some (.int a3), some (.ref 64)], [], st q4.2 hs, 0, 0)
            refine hX _ ?_
            clear hP hX hk P' X cal
            have hr := Option.some.inj hr
            subst hr
            refine Wp.stepsG 2 (fun cal X P' hk hX hP => ?_)
            exact hP _ _ h
          · clear hP hX hk P' X cal
            rw [if_neg hc] at hr
            have hr := Option.some.inj hr
            subst hr
            refine Wp.stepsG 2 (fun cal X P' hk hX hP => ?_)
            exact hP _ _ h
        · clear hP hX hk P' X cal
          rw [if_neg hc] at hr
          have hr := Option.some.inj hr
          subst hr
          refine Wp.stepsG 2 (fun cal X P' hk hX hP => ?_)
          exact hP _ _ h
    · clear hP hX hk P' X cal
      rw [if_pos hc] at hr
      refine Wp.stepsG 4 (fun cal X P' hk hX hP => ?_)
      show kcall cal ix_X8_renew [.ref 64, .int (-1), .int 0] (st S hs) [] 0 0 (0, 0) (fun v σ' c' m' => X (26, [some (.ref 7), some (.int a1), some (.int a2), some (.int a3), some (.ref 64)], v.toList ++ [], σ', c', m'))
      obtain ⟨q5, hq5, hr⟩ := bd_some hr
      refine kcall0 rfl (hk _ _ _ _ _ _ (e_X8_renew_64 (d + 1) S hs (-1) 0 q5 hq5 _ ?_))
      show X (26, [some (.ref 7), some (.int a1), some (.int a2), some (.int a3), some (.ref 64)], [], st q5.2 hs, 0, 0)
      refine hX _ ?_
      clear hP hX hk P' X cal
      have hr := Option.some.inj hr
      subst hr
      refine Wp.stepsG 2 (fun cal X P' hk hX hP => ?_)
      exact hP _ _ h
  · rw [hz16]
    rw [oN_is hz16] at hr
    refine Wp.stepsG 6 (fun cal X P' hk hX hP => ?_)
    show (¬ a2 = (-1) → X (28, [some (.ref 7), some (.int a1), some (.int a2), some (.int a3), some (.ref 66)], [], st S hs, 0, 0)) ∧ (a2 = (-1) → X (19, [some (.ref 7), some (.int a1), some (.int a2), some (.int a3), some (.ref 66)], [], st S hs, 0, 0))
    refine ⟨fun hc => hX _ ?_, fun hc => hX _ ?_⟩
    · clear hP hX hk P' X cal
      rw [if_neg hc] at hr
      refine Wp.stepsG 4 (fun cal X P' hk hX hP => ?_)
      show kcall cal ix_X11_within [.int a2, .int 0, .int 4] (st S hs) [] 0 0 (0, 0) (fun v σ' c' m' => X (34, [some (.ref 7), some (.int a1), some (.int a2), some (.int a3), some (.ref 66)], v.toList ++ [], σ', c', m'))
      refine kcall0 rfl (hk _ _ _ _ _ _ (e_X11_within (d + 1) S hs a2 0 4 _ ?_))
      show X (34, [some (.ref 7), some (.int a1), some (.int a2), some (.int a3), some (.ref 66)], [.int (r_X11_within a2 0 4)], st S hs, 0, 0)
      refine hX _ ?_
      clear hP hX hk P' X cal
      refine Wp.stepsG 1 (fun cal X P' hk hX hP => ?_)
      show ((r_X11_within a2 0 4) = 0 → X (43, [some (.ref 7), some (.int a1), some (.int a2), some (.int a3), some (.ref 66)], [], st S hs, 0, 0)) ∧ (¬ (r_X11_within a2 0 4) = 0 → X (37, [some (.ref 7), some (.int a1), some (.int a2), some (.int a3), some (.ref 66)], [], st S hs, 0, 0))
      refine ⟨fun hc => hX _ ?_, fun hc => hX _ ?_⟩
      · clear hP hX hk P' X cal
        rw [if_pos hc] at hr
        have hr := Option.some.inj hr
        subst hr
        refine Wp.stepsG 2 (fun cal X P' hk hX hP => ?_)
        exact hP _ _ h
      · clear hP hX hk P' X cal
        rw [if_neg hc] at hr
        refine Wp.stepsG 3 (fun cal X P' hk hX hP => ?_)
        show (a3 ≤ 60 → X (46, [some (.ref 7), some (.int a1), some (.int a2), some (.int a3), some (.ref 66)], [], st S hs, 0, 0)) ∧ (¬ a3 ≤ 60 → X (43, [some (.ref 7), some (.int a1), some (.int a2), some (.int a3), some (.ref 66)], [], st S hs, 0, 0))
        refine ⟨fun hc => hX _ ?_, fun hc => hX _ ?_⟩
        · clear hP hX hk P' X cal
          rw [if_pos hc] at hr
          refine Wp.stepsG 2 (fun cal X P' hk hX hP => ?_)
          show (0 ≤ a3 → X (53, [some (.ref 7), some (.int a1), some (.int a2), some (.int a3), some (.ref 66)], [], st S hs, 0, 0)) ∧ (¬ 0 ≤ a3 → X (50, [some (.ref 7), some (.int a1), some (.int a2), some (.int a3), some (.ref 66)], [], st S hs, 0, 0))
          refine ⟨fun hc => hX _ ?_, fun hc => hX _ ?_⟩
          · clear hP hX hk P' X cal
            rw [if_pos hc] at hr
            refine Wp.stepsG 4 (fun cal X P' hk hX hP => ?_)
            show kcall cal ix_X8_renew [.ref 66, .int a2, .int a3] (st S hs) [] 0 0 (0, 0) (fun v σ' c' m' => X (60, [some (.ref 7), some (.int a1), some (.int a2), some (.int a3), some (.ref 66)], v.toList ++ [], σ', c', m'))
            obtain ⟨q6, hq6, hr⟩ := bd_some hr
            refine kcall0 rfl (hk _ _ _ _ _ _ (e_X8_renew_66 (d + 1) S hs a2 a3 q6 hq6 _ ?_))
            show X (60, [some (.ref 7), some (.int a1), some (.int a2), some (.int a3), some (.ref 66)], [], st q6.2 hs, 0, 0)
            refine hX _ ?_
            clear hP hX hk P' X cal
            have hr := Option.some.inj hr
            subst hr
            refine Wp.stepsG 2 (fun cal X P' hk hX hP => ?_)
            exact hP _ _ h
          · clear hP hX hk P' X cal
            rw [if_neg hc] at hr
            have hr := Option.some.inj hr
            subst hr
            refine Wp.stepsG 2 (fun cal X P' hk hX hP => ?_)
            exact hP _ _ h
        · clear hP hX hk P' X cal
          rw [if_neg hc] at hr
          have hr := Option.some.inj hr
          subst hr
          refine Wp.stepsG 2 (fun cal X P' hk hX hP => ?_)
          exact hP _ _ h
    · clear hP hX hk P' X cal
      rw [if_pos hc] at hr
      refine Wp.stepsG 4 (fun cal X P' hk hX hP => ?_)
      show kcall cal ix_X8_renew [.ref 66, .int (-1), .int 0] (st S hs) [] 0 0 (0, 0) (fun v σ' c' m' => X (26, [some (.ref 7), some (.int a1), some (.int a2), some (.int a3), some (.ref 66)], v.toList ++ [], σ', c', m'))
      obtain ⟨q7, hq7, hr⟩ := bd_some hr
      refine kcall0 rfl (hk _ _ _ _ _ _ (e_X8_renew_66 (d + 1) S hs (-1) 0 q7 hq7 _ ?_))
      show X (26, [some (.ref 7), some (.int a1), some (.int a2), some (.int a3), some (.ref 66)], [], st q7.2 hs, 0, 0)
      refine hX _ ?_
      clear hP hX hk P' X cal
      have hr := Option.some.inj hr
      subst hr
      refine Wp.stepsG 2 (fun cal X P' hk hX hP => ?_)
      exact hP _ _ h
  · rw [hz16]
    rw [oN_is hz16] at hr
    refine Wp.stepsG 6 (fun cal X P' hk hX hP => ?_)
    show (¬ a2 = (-1) → X (28, [some (.ref 7), some (.int a1), some (.int a2), some (.int a3), some (.ref 68)], [], st S hs, 0, 0)) ∧ (a2 = (-1) → X (19, [some (.ref 7), some (.int a1), some (.int a2), some (.int a3), some (.ref 68)], [], st S hs, 0, 0))
    refine ⟨fun hc => hX _ ?_, fun hc => hX _ ?_⟩
    · clear hP hX hk P' X cal
      rw [if_neg hc] at hr
      refine Wp.stepsG 4 (fun cal X P' hk hX hP => ?_)
      show kcall cal ix_X11_within [.int a2, .int 0, .int 4] (st S hs) [] 0 0 (0, 0) (fun v σ' c' m' => X (34, [some (.ref 7), some (.int a1), some (.int a2), some (.int a3), some (.ref 68)], v.toList ++ [], σ', c', m'))
      refine kcall0 rfl (hk _ _ _ _ _ _ (e_X11_within (d + 1) S hs a2 0 4 _ ?_))
      show X (34, [some (.ref 7), some (.int a1), some (.int a2), some (.int a3), some (.ref 68)], [.int (r_X11_within a2 0 4)], st S hs, 0, 0)
      refine hX _ ?_
      clear hP hX hk P' X cal
      refine Wp.stepsG 1 (fun cal X P' hk hX hP => ?_)
      show ((r_X11_within a2 0 4) = 0 → X (43, [some (.ref 7), some (.int a1), some (.int a2), some (.int a3), some (.ref 68)], [], st S hs, 0, 0)) ∧ (¬ (r_X11_within a2 0 4) = 0 → X (37, [some (.ref 7), some (.int a1), some (.int a2), some (.int a3), some (.ref 68)], [], st S hs, 0, 0))
      refine ⟨fun hc => hX _ ?_, fun hc => hX _ ?_⟩
      · clear hP hX hk P' X cal
        rw [if_pos hc] at hr
        have hr := Option.some.inj hr
        subst hr
        refine Wp.stepsG 2 (fun cal X P' hk hX hP => ?_)
        exact hP _ _ h
      · clear hP hX hk P' X cal
        rw [if_neg hc] at hr
        refine Wp.stepsG 3 (fun cal X P' hk hX hP => ?_)
        show (a3 ≤ 60 → X (46, [some (.ref 7), some (.int a1), some (.int a2), some (.int a3), some (.ref 68)], [], st S hs, 0, 0)) ∧ (¬ a3 ≤ 60 → X (43, [some (.ref 7), some (.int a1), some (.int a2), some (.int a3), some (.ref 68)], [], st S hs, 0, 0))
        refine ⟨fun hc => hX _ ?_, fun hc => hX _ ?_⟩
        · clear hP hX hk P' X cal
          rw [if_pos hc] at hr
          refine Wp.stepsG 2 (fun cal X P' hk hX hP => ?_)
          show (0 ≤ a3 → X (53, [some (.ref 7), some (.int a1), some (.int a2), some (.int a3), some (.ref 68)], [], st S hs, 0, 0)) ∧ (¬ 0 ≤ a3 → X (50, [some (.ref 7), some (.int a1), some (.int a2), some (.int a3), some (.ref 68)], [], st S hs, 0, 0))
          refine ⟨fun hc => hX _ ?_, fun hc => hX _ ?_⟩
          · clear hP hX hk P' X cal
            rw [if_pos hc] at hr
            refine Wp.stepsG 4 (fun cal X P' hk hX hP => ?_)
            show kcall cal ix_X8_renew [.ref 68, .int a2, .int a3] (st S hs) [] 0 0 (0, 0) (fun v σ' c' m' => X (60, [some (.ref 7), some (.int a1), some (.int a2), some (.int a3), some (.ref 68)], v.toList ++ [], σ', c', m'))
            obtain ⟨q8, hq8, hr⟩ := bd_some hr
            refine kcall0 rfl (hk _ _ _ _ _ _ (e_X8_renew_68 (d + 1) S hs a2 a3 q8 hq8 _ ?_))
            show X (60, [some (.ref 7), some (.int a1), some (.int a2), some (.int a3), some (.ref 68)], [], st q8.2 hs, 0, 0)
            refine hX _ ?_
            clear hP hX hk P' X cal
            have hr := Option.some.inj hr
            subst hr
            refine Wp.stepsG 2 (fun cal X P' hk hX hP => ?_)
            exact hP _ _ h
          · clear hP hX hk P' X cal
            rw [if_neg hc] at hr
            have hr := Option.some.inj hr
            subst hr
            refine Wp.stepsG 2 (fun cal X P' hk hX hP => ?_)
            exact hP _ _ h
        · clear hP hX hk P' X cal
          rw [if_neg hc] at hr
          have hr := Option.some.inj hr
          subst hr
          refine Wp.stepsG 2 (fun cal X P' hk hX hP => ?_)
          exact hP _ _ h
    · clear hP hX hk P' X cal
      rw [if_pos hc] at hr
      refine Wp.stepsG 4 (fun cal X P' hk hX hP => ?_)
      show kcall cal ix_X8_renew [.ref 68, .int (-1), .int 0] (st S hs) [] 0 0 (0, 0) (fun v σ' c' m' => X (26, [some (.ref 7), some (.int a1), some (.int a2), some (.int a3), some (.ref 68)], v.toList ++ [], σ', c', m'))
      obtain ⟨q9, hq9, hr⟩ := bd_some hr
      refine kcall0 rfl (hk _ _ _ _ _ _ (e_X8_renew_68 (d + 1) S hs (-1) 0 q9 hq9 _ ?_))
      show X (26, [some (.ref 7), some (.int a1), some (.int a2), some (.int a3), some (.ref 68)], [], st q9.2 hs, 0, 0)
      refine hX _ ?_
      clear hP hX hk P' X cal
      have hr := Option.some.inj hr
      subst hr
      refine Wp.stepsG 2 (fun cal X P' hk hX hP => ?_)
      exact hP _ _ h
  · rw [hz16]
    rw [oN_is hz16] at hr
    refine Wp.stepsG 6 (fun cal X P' hk hX hP => ?_)
    show (¬ a2 = (-1) → X (28, [some (.ref 7), some (.int a1), some (.int a2), some (.int a3), some (.ref 70)], [], st S hs, 0, 0)) ∧ (a2 = (-1) → X (19, [some (.ref 7), some (.int a1), some (.int a2), some (.int a3), some (.ref 70)], [], st S hs, 0, 0))
    refine ⟨fun hc => hX _ ?_, fun hc => hX _ ?_⟩
    · clear hP hX hk P' X cal
      rw [if_neg hc] at hr
      refine Wp.stepsG 4 (fun cal X P' hk hX hP => ?_)
      show kcall cal ix_X11_within [.int a2, .int 0, .int 4] (st S hs) [] 0 0 (0, 0) (fun v σ' c' m' => X (34, [some (.ref 7), some (.int a1), some (.int a2), some (.int a3), some (.ref 70)], v.toList ++ [], σ', c', m'))
      refine kcall0 rfl (hk _ _ _ _ _ _ (e_X11_within (d + 1) S hs a2 0 4 _ ?_))
      show X (34, [some (.ref 7), some (.int a1), some (.int a2), some (.int a3), some (.ref 70)], [.int (r_X11_within a2 0 4)], st S hs, 0, 0)
      refine hX _ ?_
      clear hP hX hk P' X cal
      refine Wp.stepsG 1 (fun cal X P' hk hX hP => ?_)
      show ((r_X11_within a2 0 4) = 0 → X (43, [some (.ref 7), some (.int a1), some (.int a2), some (.int a3), some (.ref 70)], [], st S hs, 0, 0)) ∧ (¬ (r_X11_within a2 0 4) = 0 → X (37, [some (.ref 7), some (.int a1), some (.int a2), some (.int a3), some (.ref 70)], [], st S hs, 0, 0))
      refine ⟨fun hc => hX _ ?_, fun hc => hX _ ?_⟩
      · clear hP hX hk P' X cal
        rw [if_pos hc] at hr
        have hr := Option.some.inj hr
        subst hr
        refine Wp.stepsG 2 (fun cal X P' hk hX hP => ?_)
        exact hP _ _ h
      · clear hP hX hk P' X cal
        rw [if_neg hc] at hr
        refine Wp.stepsG 3 (fun cal X P' hk hX hP => ?_)
        show (a3 ≤ 60 → X (46, [some (.ref 7), some (.int a1), some (.int a2), some (.int a3), some (.ref 70)], [], st S hs, 0, 0)) ∧ (¬ a3 ≤ 60 → X (43, [some (.ref 7), some (.int a1), some (.int a2), some (.int a3), some (.ref 70)], [], st S hs, 0, 0))
        refine ⟨fun hc => hX _ ?_, fun hc => hX _ ?_⟩
        · clear hP hX hk P' X cal
          rw [if_pos hc] at hr
          refine Wp.stepsG 2 (fun cal X P' hk hX hP => ?_)
          show (0 ≤ a3 → X (53, [some (.ref 7), some (.int a1), some (.int a2), some (.int a3), some (.ref 70)], [], st S hs, 0, 0)) ∧ (¬ 0 ≤ a3 → X (50, [some (.ref 7), some (.int a1), some (.int a2), some (.int a3), some (.ref 70)], [], st S hs, 0, 0))
          refine ⟨fun hc => hX _ ?_, fun hc => hX _ ?_⟩
          · clear hP hX hk P' X cal
            rw [if_pos hc] at hr
            refine Wp.stepsG 4 (fun cal X P' hk hX hP => ?_)
            show kcall cal ix_X8_renew [.ref 70, .int a2, .int a3] (st S hs) [] 0 0 (0, 0) (fun v σ' c' m' => X (60, [some (.ref 7), some (.int a1), some (.int a2), some (.int a3), some (.ref 70)], v.toList ++ [], σ', c', m'))
            obtain ⟨q10, hq10, hr⟩ := bd_some hr
            refine kcall0 rfl (hk _ _ _ _ _ _ (e_X8_renew_70 (d + 1) S hs a2 a3 q10 hq10 _ ?_))
            show X (60, [some (.ref 7), some (.int a1), some (.int a2), some (.int a3), some (.ref 70)], [], st q10.2 hs, 0, 0)
            refine hX _ ?_
            clear hP hX hk P' X cal
            have hr := Option.some.inj hr
            subst hr
            refine Wp.stepsG 2 (fun cal X P' hk hX hP => ?_)
            exact hP _ _ h
          · clear hP hX hk P' X cal
            rw [if_neg hc] at hr
            have hr := Option.some.inj hr
            subst hr
            refine Wp.stepsG 2 (fun cal X P' hk hX hP => ?_)
            exact hP _ _ h
        · clear hP hX hk P' X cal
          rw [if_neg hc] at hr
          have hr := Option.some.inj hr
          subst hr
          refine Wp.stepsG 2 (fun cal X P' hk hX hP => ?_)
          exact hP _ _ h
    · clear hP hX hk P' X cal
      rw [if_pos hc] at hr
      refine Wp.stepsG 4 (fun cal X P' hk hX hP => ?_)
      show kcall cal ix_X8_renew [.ref 70, .int (-1), .int 0] (st S hs) [] 0 0 (0, 0) (fun v σ' c' m' => X (26, [some (.ref 7), some (.int a1), some (.int a2), some (.int a3), some (.ref 70)], v.toList ++ [], σ', c', m'))
      obtain ⟨q11, hq11, hr⟩ := bd_some hr
      refine kcall0 rfl (hk _ _ _ _ _ _ (e_X8_renew_70 (d + 1) S hs (-1) 0 q11 hq11 _ ?_))
      show X (26, [some (.ref 7), some (.int a1), some (.int a2), some (.int a3), some (.ref 70)], [], st q11.2 hs, 0, 0)
      refine hX _ ?_
      clear hP hX hk P' X cal
      have hr := Option.some.inj hr
      subst hr
      refine Wp.stepsG 2 (fun cal X P' hk hX hP => ?_)
      exact hP _ _ h
  · rw [hz16]
    rw [oN_is hz16] at hr
    refine Wp.stepsG 6 (fun cal X P' hk hX hP => ?_)
    show (¬ a2 = (-1) → X (28, [some (.ref 7), some (.int a1), some (.int a2), some (.int a3), some (.ref 72)], [], st S hs, 0, 0)) ∧ (a2 = (-1) → X (19, [some (.ref 7), some (.int a1), some (.int a2), some (.int a3), some (.ref 72)], [], st S hs, 0, 0))
    refine ⟨fun hc => hX _ ?_, fun hc => hX _ ?_⟩
    · clear hP hX hk P' X cal
      rw [if_neg hc] at hr
      refine Wp.stepsG 4 (fun cal X P' hk hX hP => ?_)
      show kcall cal ix_X11_within [.int a2, .int 0, .int 4] (st S hs) [] 0 0 (0, 0) (fun v σ' c' m' => X (34, [some (.ref 7), some (.int a1), some (.int a2), some (.int a3), some (.ref 72)], v.toList ++ [], σ', c', m'))
      refine kcall0 rfl (hk _ _ _ _ _ _ (e_X11_within (d + 1) S hs a2 0 4 _ ?_))
      show X (34, [some (.ref 7), some (.int a1), some (.int a2), some (.int a3), some (.ref 72)], [.int (r_X11_within a2 0 4)], st S hs, 0, 0)
      refine hX _ ?_
      clear hP hX hk P' X cal
      refine Wp.stepsG 1 (fun cal X P' hk hX hP => ?_)
      show ((r_X11_within a2 0 4) = 0 → X (43, [some (.ref 7), some (.int a1), some (.int a2), some (.int a3), some (.ref 72)], [], st S hs, 0, 0)) ∧ (¬ (r_X11_within a2 0 4) = 0 → X (37, [some (.ref 7), some (.int a1), some (.int a2), some (.int a3), some (.ref 72)], [], st S hs, 0, 0))
      refine ⟨fun hc => hX _ ?_, fun hc => hX _ ?_⟩
      · clear hP hX hk P' X cal
        rw [if_pos hc] at hr
        have hr := Option.some.inj hr
        subst hr
        refine Wp.stepsG 2 (fun cal X P' hk hX hP => ?_)
        exact hP _ _ h
      · clear hP hX hk P' X cal
        rw [if_neg hc] at hr
        refine Wp.stepsG 3 (fun cal X P' hk hX hP => ?_)
        show (a3 ≤ 60 → X (46, [some (.ref 7), some (.int a1), some (.int a2), some (.int a3), some (.ref 72)], [], st S hs, 0, 0)) ∧ (¬ a3 ≤ 60 → X (43, [some (.ref 7), some (.int a1), some (.int a2), some (.int a3), some (.ref 72)], [], st S hs, 0, 0))
        refine ⟨fun hc => hX _ ?_, fun hc => hX _ ?_⟩
        · clear hP hX hk P' X cal
          rw [if_pos hc] at hr
          refine Wp.stepsG 2 (fun cal X P' hk hX hP => ?_)
          show (0 ≤ a3 → X (53, [some (.ref 7), some (.int a1), some (.int a2), some (.int a3), some (.ref 72)], [], st S hs, 0, 0)) ∧ (¬ 0 ≤ a3 → X (50, [some (.ref 7), some (.int a1), some (.int a2), some (.int a3), some (.ref 72)], [], st S hs, 0, 0))
          refine ⟨fun hc => hX _ ?_, fun hc => hX _ ?_⟩
          · clear hP hX hk P' X cal
            rw [if_pos hc] at hr
            refine Wp.stepsG 4 (fun cal X P' hk hX hP => ?_)
            show kcall cal ix_X8_renew [.ref 72, .int a2, .int a3] (st S hs) [] 0 0 (0, 0) (fun v σ' c' m' => X (60, [some (.ref 7), some (.int a1), some (.int a2), some (.int a3), some (.ref 72)], v.toList ++ [], σ', c', m'))
            obtain ⟨q12, hq12, hr⟩ := bd_some hr
            refine kcall0 rfl (hk _ _ _ _ _ _ (e_X8_renew_72 (d + 1) S hs a2 a3 q12 hq12 _ ?_))
            show X (60, [some (.ref 7), some (.int a1), some (.int a2), some (.int a3), some (.ref 72)], [], st q12.2 hs, 0, 0)
            refine hX _ ?_
            clear hP hX hk P' X cal
            have hr := Option.some.inj hr
            subst hr
            refine Wp.stepsG 2 (fun cal X P' hk hX hP => ?_)
            exact hP _ _ h
          · clear hP hX hk P' X cal
            rw [if_neg hc] at hr
            have hr := Option.some.inj hr
            subst hr
            refine Wp.stepsG 2 (fun cal X P' hk hX hP => ?_)
            exact hP _ _ h
        · clear hP hX hk P' X cal
          rw [if_neg hc] at hr
          have hr := Option.some.inj hr
          subst hr
          refine Wp.stepsG 2 (fun cal X P' hk hX hP => ?_)
          exact hP _ _ h
    · clear hP hX hk P' X cal
      rw [if_pos hc] at hr
      refine Wp.stepsG 4 (fun cal X P' hk hX hP => ?_)
      show kcall cal ix_X8_renew [.ref 72, .int (-1), .int 0] (st S hs) [] 0 0 (0, 0) (fun v σ' c' m' => X (26, [some (.ref 7), some (.int a1), some (.int a2), some (.int a3), some (.ref 72)], v.toList ++ [], σ', c', m'))
      obtain ⟨q13, hq13, hr⟩ := bd_some hr
      refine kcall0 rfl (hk _ _ _ _ _ _ (e_X8_renew_72 (d + 1) S hs (-1) 0 q13 hq13 _ ?_))
      show X (26, [some (.ref 7), some (.int a1), some (.int a2), some (.int a3), some (.ref 72)], [], st q13.2 hs, 0, 0)
      refine hX _ ?_
      clear hP hX hk P' X cal
      have hr := Option.some.inj hr
      subst hr
      refine Wp.stepsG 2 (fun cal X P' hk hX hP => ?_)
      exact hP _ _ h
  · rw [hz16]
    rw [oN_is hz16] at hr
    refine Wp.stepsG 6 (fun cal X P' hk hX hP => ?_)
    show (¬ a2 = (-1) → X (28, [some (.ref 7), some (.int a1), some (.int a2), some (.int a3), some (.ref 74)], [], st S hs, 0, 0)) ∧ (a2 = (-1) → X (19, [some (.ref 7), some (.int a1), some (.int a2), some (.int a3), some (.ref 74)], [], st S hs, 0, 0))
    refine ⟨fun hc => hX _ ?_, fun hc => hX _ ?_⟩
    · clear hP hX hk P' X cal
      rw [if_neg hc] at hr
      refine Wp.stepsG 4 (fun cal X P' hk hX hP => ?_)
      show kcall cal ix_X11_within [.int a2, .int 0, .int 4] (st S hs) [] 0 0 (0, 0) (fun v σ' c' m' => X (34, [some (.ref 7), some (.int a1), some (.int a2), some (.int a3), some (.ref 74)], v.toList ++ [], σ', c', m'))
      refine kcall0 rfl (hk _ _ _ _ _ _ (e_X11_within (d + 1) S hs a2 0 4 _ ?_))
      show X (34, [some (.ref 7), some (.int a1), some (.int a2), some (.int a3), some (.ref 74)], [.int (r_X11_within a2 0 4)], st S hs, 0, 0)
      refine hX _ ?_
      clear hP hX hk P' X cal
      refine Wp.stepsG 1 (fun cal X P' hk hX hP => ?_)
      show ((r_X11_within a2 0 4) = 0 → X (43, [some (.ref 7), some (.int a1), some (.int a2), some (.int a3), some (.ref 74)], [], st S hs, 0, 0)) ∧ (¬ (r_X11_within a2 0 4) = 0 → X (37, [some (.ref 7), some (.int a1), some (.int a2), some (.int a3), some (.ref 74)], [], st S hs, 0, 0))
      refine ⟨fun hc => hX _ ?_, fun hc => hX _ ?_⟩
      · clear hP hX hk P' X cal
        rw [if_pos hc] at hr
        have hr := Option.some.inj hr
        subst hr
        refine Wp.stepsG 2 (fun cal X P' hk hX hP => ?_)
        exact hP _ _ h
      · clear hP hX hk P' X cal
        rw [if_neg hc] at hr
        refine Wp.stepsG 3 (fun cal X P' hk hX hP => ?_)
        show (a3 ≤ 60 → X (46, [some (.ref 7), some (.int a1), some (.int a2), some (.int a3), some (.ref 74)], [], st S hs, 0, 0)) ∧ (¬ a3 ≤ 60 → X (43, [some (.ref 7), some (.int a1), some (.int a2), some (.int a3), some (.ref 74)], [], st S hs, 0, 0))
        refine ⟨fun hc => hX _ ?_, fun hc => hX _ ?_⟩
        · clear hP hX hk P' X cal
          rw [if_pos hc] at hr
          refine Wp.stepsG 2 (fun cal X P' hk hX hP => ?_)
          show (0 ≤ a3 → X (53, [some (.ref 7), some (.int a1), some (.int a2), some (.int a3), some (.ref 74)], [], st S hs, 0, 0)) ∧ (¬ 0 ≤ a3 → X (50, [some (.ref 7), some (.int a1), some (.int a2), some (.int a3), some (.ref 74)], [], st S hs, 0, 0))
          refine ⟨fun hc => hX _ ?_, fun hc => hX _ ?_⟩
          · clear hP hX hk P' X cal
            rw [if_pos hc] at hr
            refine Wp.stepsG 4 (fun cal X P' hk hX hP => ?_)
            show kcall cal ix_X8_renew [.ref 74, .int a2, .int a3] (st S hs) [] 0 0 (0, 0) (fun v σ' c' m' => X (60, [some (.ref 7), some (.int a1), some (.int a2), some (.int a3), some (.ref 74)], v.toList ++ [], σ', c', m'))
            obtain ⟨q14, hq14, hr⟩ := bd_some hr
            refine kcall0 rfl (hk _ _ _ _ _ _ (e_X8_renew_74 (d + 1) S hs a2 a3 q14 hq14 _ ?_))
            show X (60, [some (.ref 7), some (.int a1), some (.int a2), some (.int a3), some (.ref 74)], [], st q14.2 hs, 0, 0)
            refine hX _ ?_
            clear hP hX hk P' X cal
            have hr := Option.some.inj hr
            subst hr
            refine Wp.stepsG 2 (fun cal X P' hk hX hP => ?_)
            exact hP _ _ h
          · clear hP hX hk P' X cal
            rw [if_neg hc] at hr
            have hr := Option.some.inj hr
            subst hr
            refine Wp.stepsG 2 (fun cal X P' hk hX hP => ?_)
            exact hP _ _ h
        · clear hP hX hk P' X cal
          rw [if_neg hc] at hr
          have hr := Option.some.inj hr
          subst hr
          refine Wp.stepsG 2 (fun cal X P' hk hX hP => ?_)
          exact hP _ _ h
    · clear hP hX hk P' X cal
      rw [if_pos hc] at hr
      refine Wp.stepsG 4 (fun cal X P' hk hX hP => ?_)
      show kcall cal ix_X8_renew [.ref 74, .int (-1), .int 0] (st S hs) [] 0 0 (0, 0) (fun v σ' c' m' => X (26, [some (.ref 7), some (.int a1), some (.int a2), some (.int a3), some (.ref 74)], v.toList ++ [], σ', c', m'))
      obtain ⟨q15, hq15, hr⟩ := bd_some hr
      refine kcall0 rfl (hk _ _ _ _ _ _ (e_X8_renew_74 (d + 1) S hs (-1) 0 q15 hq15 _ ?_))
      show X (26, [some (.ref 7), some (.int a1), some (.int a2), some (.int a3), some (.ref 74)], [], st q15.2 hs, 0, 0)
      refine hX _ ?_
      clear hP hX hk P' X cal
      have hr := Option.some.inj hr
      subst hr
      refine Wp.stepsG 2 (fun cal X P' hk hX hP => ?_)
      exact hP _ _ h
