def lp_X12_keep_79 (f1 : Int32) (f2 : Int32) (f3 : Int32) (f4 : Int32) (f7 : Int32) : Nat → Int32 → Int32 → Int32 → St → Option (Int32 × Int32 × St)
  | 0, _, _, _, _ => none
  | n + 1, v5, v6, v8, S =>
    if (S.1 76 0) ≤ v8 then
      some (v5, v6, S)
    else
      if f7 = v8 then
        lp_X12_keep_79 f1 f2 f3 f4 f7 n v5 v6 (v8 + 1) S
      else
        (r_X12_save S).bind fun q1 =>
        (r_X12_tells q1.2 f7 f1).bind fun q2 =>
        (r_X12_laughter (sI q2.2 76 2 ((q2.2.1 76 2) + f3)) v8 f2).bind fun q3 =>
        (r_X12_putBack q3.2).bind fun q4 =>
        if v5 < 0 then
          lp_X12_keep_79 f1 f2 f3 f4 f7 n (((10 : Int32) * f7) + v8) (q2.1 + q3.1) (v8 + 1) q4.2
        else
          if v6 < (q2.1 + q3.1) then
            lp_X12_keep_79 f1 f2 f3 f4 f7 n (((10 : Int32) * f7) + v8) (q2.1 + q3.1) (v8 + 1) q4.2
          else
            lp_X12_keep_79 f1 f2 f3 f4 f7 n v5 v6 (v8 + 1) q4.2
set_option maxRecDepth 20000 in
set_option maxHeartbeats 4000000 in
theorem e_lp_X12_keep_79 (d : Nat) (hs : List Hr) (P : Option Value → Hp → Prop) (f1 : Int32) (f2 : Int32) (f3 : Int32) (f4 : Int32) (f7 : Int32) : ∀ (n : Nat) (v5 : Int32) (v6 : Int32) (v8 : Int32) (S : St) (q : Int32 × Int32 × St), lp_X12_keep_79 f1 f2 f3 f4 f7 n v5 v6 v8 S = some q → (WM mi_X12_keep (d + 7) P 172 [some (.ref 76), some (.int f1), some (.int f2), some (.int f3), some (.int f4), some (.int q.1), some (.int q.2.1), some (.int f7), none, none] [] (st q.2.2 hs)) → WM mi_X12_keep (d + 7) P 79 [some (.ref 76), some (.int f1), some (.int f2), some (.int f3), some (.int f4), some (.int v5), some (.int v6), some (.int f7), some (.int v8), none] [] (st S hs) := by
  intro n
  induction n with
  | zero =>
    intro v5 v6 v8 S q hl
    cases hl
  | succ n ih =>
    intro v5 v6 v8 S q hl ct
    rw [lp_X12_keep_79] at hl
    refine Wp.stepsG 4 (fun cal X P' hk hX hP => ?_)
    show ((S.1 76 0) ≤ v8 → X (172, [some (.ref 76), some (.int f1), some (.int f2), some (.int f3), some (.int f4), some (.int v5), some (.int v6), some (.int f7), some (.int v8), none], [], st S hs, 0, 0)) ∧ (¬ (S.1 76 0) ≤ v8 → X (88, [some (.ref 76), some (.int f1), some (.int f2), some (.int f3), some (.int f4), some (.int v5), some (.int v6), some (.int f7), some (.int v8), none], [], st S hs, 0, 0))
    refine ⟨fun hc => hX _ ?_, fun hc => hX _ ?_⟩
    · clear hP hX hk P' X cal
      rw [if_pos hc] at hl
      have hl := Option.some.inj hl
      subst hl
      exact Wp.weak (leL.k (leL.k (leL.k (leL.k (leL.k (leL.k (leL.k (leL.k (leL.n (leL.k leL.z)))))))))) (ct)
    · clear hP hX hk P' X cal
      rw [if_neg hc] at hl
      refine Wp.stepsG 3 (fun cal X P' hk hX hP => ?_)
      show (¬ f7 = v8 → X (98, [some (.ref 76), some (.int f1), some (.int f2), some (.int f3), some (.int f4), some (.int v5), some (.int v6), some (.int f7), some (.int v8), none], [], st S hs, 0, 0)) ∧ (f7 = v8 → X (95, [some (.ref 76), some (.int f1), some (.int f2), some (.int f3), some (.int f4), some (.int v5), some (.int v6), some (.int f7), some (.int v8), none], [], st S hs, 0, 0))
      refine ⟨fun hc => hX _ ?_, fun hc => hX _ ?_⟩
      · clear hP hX hk P' X cal
        rw [if_neg hc] at hl
        refine Wp.stepsG 2 (fun cal X P' hk hX hP => ?_)
        show kcall cal ix_X12_save [.ref 76] (st S hs) [] 0 0 (0, 0) (fun v σ' c' m' => X (102, [some (.ref 76), some (.int f1), some (.int f2), some (.int f3), some (.int f4), some (.int v5), some (.int v6), some (.int f7), some (.int v8), none], v.toList ++ [], σ', c', m'))
        obtain ⟨q1, hq1, hl⟩ := bd_some hl
        refine kcall0 rfl (hk _ _ _ _ _ _ (e_X12_save (d + 6) S hs q1 hq1 _ ?_))
        show X (102, [some (.ref 76), some (.int f1), some (.int f2), some (.int f3), some (.int f4), some (.int v5), some (.int v6), some (.int f7), some (.int v8), none], [], st q1.2 hs, 0, 0)
        refine hX _ ?_
        clear hP hX hk P' X cal
        refine Wp.stepsG 4 (fun cal X P' hk hX hP => ?_)
        show kcall cal ix_X12_tells [.ref 76, .int f7, .int f1] (st q1.2 hs) [] 0 0 (0, 0) (fun v σ' c' m' => X (109, [some (.ref 76), some (.int f1), some (.int f2), some (.int f3), some (.int f4), some (.int v5), some (.int v6), some (.int f7), some (.int v8), none], v.toList ++ [], σ', c', m'))
        obtain ⟨q2, hq2, hl⟩ := bd_some hl
        refine kcall0 rfl (hk _ _ _ _ _ _ (e_X12_tells (d + 0) q1.2 hs f7 f1 q2 hq2 _ ?_))
        show X (109, [some (.ref 76), some (.int f1), some (.int f2), some (.int f3), some (.int f4), some (.int v5), some (.int v6), some (.int f7), some (.int v8), none], [.int q2.1], st q2.2 hs, 0, 0)
        refine hX _ ?_
        clear hP hX hk P' X cal
        refine Wp.stepsG 12 (fun cal X P' hk hX hP => ?_)
        show kcall cal ix_X12_laughter [.ref 76, .int v8, .int f2] (st (sI q2.2 76 2 ((q2.2.1 76 2) + f3)) hs) [.int q2.1] 0 0 (0, 0) (fun v σ' c' m' => X (130, [some (.ref 76), some (.int f1), some (.int f2), some (.int f3), some (.int f4), some (.int v5), some (.int v6), some (.int f7), some (.int v8), some (.int q2.1)], v.toList ++ [.int q2.1], σ', c', m'))
        obtain ⟨q3, hq3, hl⟩ := bd_some hl
        refine kcall0 rfl (hk _ _ _ _ _ _ (e_X12_laughter (d + 1) (sI q2.2 76 2 ((q2.2.1 76 2) + f3)) hs v8 f2 q3 hq3 _ ?_))
        show X (130, [some (.ref 76), some (.int f1), some (.int f2), some (.int f3), some (.int f4), some (.int v5), some (.int v6), some (.int f7), some (.int v8), some (.int q2.1)], [.int q3.1, .int q2.1], st q3.2 hs, 0, 0)
        refine hX _ ?_
        clear hP hX hk P' X cal
        refine Wp.stepsG 4 (fun cal X P' hk hX hP => ?_)
        show kcall cal ix_X12_putBack [.ref 76] (st q3.2 hs) [] 0 0 (0, 0) (fun v σ' c' m' => X (137, [some (.ref 76), some (.int f1), some (.int f2), some (.int f3), some (.int f4), some (.int v5), some (.int v6), some (.int f7), some (.int v8), some (.int (q2.1 + q3.1))], v.toList ++ [], σ', c', m'))
        obtain ⟨q4, hq4, hl⟩ := bd_some hl
        refine kcall0 rfl (hk _ _ _ _ _ _ (e_X12_putBack (d + 6) q3.2 hs q4 hq4 _ ?_))
        show X (137, [some (.ref 76), some (.int f1), some (.int f2), some (.int f3), some (.int f4), some (.int v5), some (.int v6), some (.int f7), some (.int v8), some (.int (q2.1 + q3.1))], [], st q4.2 hs, 0, 0)
        refine hX _ ?_
        clear hP hX hk P' X cal
        refine Wp.stepsG 2 (fun cal X P' hk hX hP => ?_)
        show (v5 < 0 → X (152, [some (.ref 76), some (.int f1), some (.int f2), some (.int f3), some (.int f4), some (.int v5), some (.int v6), some (.int f7), some (.int v8), some (.int (q2.1 + q3.1))], [], st q4.2 hs, 0, 0)) ∧ (¬ v5 < 0 → X (142, [some (.ref 76), some (.int f1), some (.int f2), some (.int f3), some (.int f4), some (.int v5), some (.int v6), some (.int f7), some (.int v8), some (.int (q2.1 + q3.1))], [], st q4.2 hs, 0, 0))
        refine ⟨fun hc => hX _ ?_, fun hc => hX _ ?_⟩
        · clear hP hX hk P' X cal
          rw [if_pos hc] at hl
          refine Wp.stepsG 10 (fun cal X P' hk hX hP => ?_)
          show X (79, [some (.ref 76), some (.int f1), some (.int f2), some (.int f3), some (.int f4), some (.int (((10 : Int32) * f7) + v8)), some (.int (q2.1 + q3.1)), some (.int f7), some (.int (v8 + 1)), some (.int (q2.1 + q3.1))], [], st q4.2 hs, 0, 0)
          refine hX _ ?_
          exact Wp.weak (leL.k (leL.k (leL.k (leL.k (leL.k (leL.k (leL.k (leL.k (leL.k (leL.n leL.z)))))))))) (ih (((10 : Int32) * f7) + v8) (q2.1 + q3.1) (v8 + 1) q4.2 q hl ct)
        · clear hP hX hk P' X cal
          rw [if_neg hc] at hl
          refine Wp.stepsG 3 (fun cal X P' hk hX hP => ?_)
          show (v6 < (q2.1 + q3.1) → X (152, [some (.ref 76), some (.int f1), some (.int f2), some (.int f3), some (.int f4), some (.int v5), some (.int v6), some (.int f7), some (.int v8), some (.int (q2.1 + q3.1))], [], st q4.2 hs, 0, 0)) ∧ (¬ v6 < (q2.1 + q3.1) → X (149, [some (.ref 76), some (.int f1), some (.int f2), some (.int f3), some (.int f4), some (.int v5), some (.int v6), some (.int f7), some (.int v8), some (.int (q2.1 + q3.1))], [], st q4.2 hs, 0, 0))
          refine ⟨fun hc => hX _ ?_, fun hc => hX _ ?_⟩
          · clear hP hX hk P' X cal
            rw [if_pos hc] at hl
            refine Wp.stepsG 10 (fun cal X P' hk hX hP => ?_)
            show X (79, [some (.ref 76), some (.int f1), some (.int f2), some (.int f3), some (.int f4), some (.int (((10 : Int32) * f7) + v8)), some (.int (q2.1 + q3.1)), some (.int f7), some (.int (v8 + 1)), some (.int (q2.1 + q3.1))], [], st q4.2 hs, 0, 0)
            refine hX _ ?_
            exact Wp.weak (leL.k (leL.k (leL.k (leL.k (leL.k (leL.k (leL.k (leL.k (leL.k (leL.n leL.z)))))))))) (ih (((10 : Int32) * f7) + v8) (q2.1 + q3.1) (v8 + 1) q4.2 q hl ct)
          · clear hP hX hk P' X cal
            rw [if_neg hc] at hl
            refine Wp.stepsG 3 (fun cal X P' hk hX hP => ?_)
            show X (79, [some (.ref 76), some (.int f1), some (.int f2), some (.int f3), some (.int f4), some (.int v5), some (.int v6), some (.int f7), some (.int (v8 + 1)), some (.int (q2.1 + q3.1))], [], st q4.2 hs, 0, 0)
            refine hX _ ?_
            exact Wp.weak (leL.k (leL.k (leL.k (leL.k (leL.k (leL.k (leL.k (leL.k (leL.k (leL.n leL.z)))))))))) (ih v5 v6 (v8 + 1) q4.2 q hl ct)
      · clear hP hX hk P' X cal
        rw [if_pos hc] at hl
        refine Wp.stepsG 3 (fun cal X P' hk hX hP => ?_)
        show X (79, [some (.ref 76), some (.int f1), some (.int f2), some (.int f3), some (.int f4), some (.int v5), some (.int v6), some (.int f7), some (.int (v8 + 1)), none], [], st S hs, 0, 0)
        refine hX _ ?_
        exact (ih v5 v6 (v8 + 1) S q hl ct)
def lp_X12_keep_67 (f1 : Int32) (f2 : Int32) (f3 : Int32) (f4 : Int32) : Nat → Int32 → Int32 → Int32 → St → Option (Int32 × Int32 × St)
  | 0, _, _, _, _ => none
  | n + 1, v5, v6, v7, S =>
    if (S.1 76 0) ≤ v7 then
      some (v5, v6, S)
    else
      (lp_X12_keep_79 f1 f2 f3 f4 v7 4000 v5 v6 0 S).bind fun q5 =>
        lp_X12_keep_67 f1 f2 f3 f4 n q5.1 q5.2.1 (v7 + 1) q5.2.2
set_option maxRecDepth 20000 in
set_option maxHeartbeats 4000000 in
theorem e_lp_X12_keep_67 (d : Nat) (hs : List Hr) (P : Option Value → Hp → Prop) (f1 : Int32) (f2 : Int32) (f3 : Int32) (f4 : Int32) : ∀ (n : Nat) (v5 : Int32) (v6 : Int32) (v7 : Int32) (S : St) (q : Int32 × Int32 × St), lp_X12_keep_67 f1 f2 f3 f4 n v5 v6 v7 S = some q → (WM mi_X12_keep (d + 7) P 178 [some (.ref 76), some (.int f1), some (.int f2), some (.int f3), some (.int f4), some (.int q.1), some (.int q.2.1), none, none, none] [] (st q.2.2 hs)) → WM mi_X12_keep (d + 7) P 67 [some (.ref 76), some (.int f1), some (.int f2), some (.int f3), some (.int f4), some (.int v5), some (.int v6), some (.int v7), none, none] [] (st S hs) := by
  intro n
  induction n with
  | zero =>
    intro v5 v6 v7 S q hl
    cases hl
  | succ n ih =>
    intro v5 v6 v7 S q hl ct
    rw [lp_X12_keep_67] at hl
    refine Wp.stepsG 4 (fun cal X P' hk hX hP => ?_)
    show ((S.1 76 0) ≤ v7 → X (178, [some (.ref 76), some (.int f1), some (.int f2), some (.int f3), some (.int f4), some (.int v5), some (.int v6), some (.int v7), none, none], [], st S hs, 0, 0)) ∧ (¬ (S.1 76 0) ≤ v7 → X (76, [some (.ref 76), some (.int f1), some (.int f2), some (.int f3), some (.int f4), some (.int v5), some (.int v6), some (.int v7), none, none], [], st S hs, 0, 0))
    refine ⟨fun hc => hX _ ?_, fun hc => hX _ ?_⟩
    · clear hP hX hk P' X cal
      rw [if_pos hc] at hl
      have hl := Option.some.inj hl
      subst hl
      exact Wp.weak (leL.k (leL.k (leL.k (leL.k (leL.k (leL.k (leL.k (leL.n (leL.k (leL.k leL.z)))))))))) (ct)
    · clear hP hX hk P' X cal
      rw [if_neg hc] at hl
      refine Wp.stepsG 2 (fun cal X P' hk hX hP => ?_)
      show X (79, [some (.ref 76), some (.int f1), some (.int f2), some (.int f3), some (.int f4), some (.int v5), some (.int v6), some (.int v7), some (.int 0), none], [], st S hs, 0, 0)
      refine hX _ ?_
      clear hP hX hk P' X cal
      obtain ⟨q5, hq5, hl⟩ := bd_some hl
      refine (e_lp_X12_keep_79 d hs P f1 f2 f3 f4 v7 _ v5 v6 0 S q5 hq5 ?_)
      refine Wp.stepsG 2 (fun cal X P' hk hX hP => ?_)
      show X (67, [some (.ref 76), some (.int f1), some (.int f2), some (.int f3), some (.int f4), some (.int q5.1), some (.int q5.2.1), some (.int (v7 + 1)), none, none], [], st q5.2.2 hs, 0, 0)
      refine hX _ ?_
      exact (ih q5.1 q5.2.1 (v7 + 1) q5.2.2 q hl ct)
def r_X12_keep (S : St) (a1 : Int32) (a2 : Int32) (a3 : Int32) (a4 : Int32) : Option (Int32 × St) :=
  if (r_X12_in a4 0 1) = 0 then
    some ((-10001), S)
  else
    if (r_X12_isTable S a1) = 0 then
      some ((-10002), S)
    else
      if (r_X12_isTable S a2) = 0 then
        some ((-10002), S)
      else
        if (r_X12_in a3 1 60) = 0 then
          some ((-10002), S)
        else
          if 2 ≤ (S.1 76 0) then
            (lp_X12_keep_67 a1 a2 a3 a4 4000 (-1) 0 0 S).bind fun q6 =>
              if a4 = 0 then
                some (q6.1, q6.2.2)
              else
                some (q6.2.1, q6.2.2)
          else
            some ((-10005), S)
set_option maxRecDepth 20000 in
set_option maxHeartbeats 4000000 in
theorem e_X12_keep (d : Nat) (S : St) (hs : List Hr) (a1 : Int32) (a2 : Int32) (a3 : Int32) (a4 : Int32) (v : Int32 × St) (hr : r_X12_keep S a1 a2 a3 a4 = some v) (P : Option Value → Hp → Prop) (h : P (some (.int v.1)) (st v.2 hs)) : Ev (d + 8) ix_X12_keep 0 0 [.ref 76, .int a1, .int a2, .int a3, .int a4] (st S hs) P := by
  refine Ev.intro (M := mi_X12_keep) rfl (Nat.le_of_ble_eq_true rfl) ?_
  unfold r_X12_keep at hr
  refine Wp.stepsG 5 (fun cal X P' hk hX hP => ?_)
  show kcall cal ix_X12_in [.ref 76, .int a4, .int 0, .int 1] (st S hs) [] 0 0 (0, 0) (fun v σ' c' m' => X (8, [some (.ref 76), some (.int a1), some (.int a2), some (.int a3), some (.int a4), none, none, none, none, none], v.toList ++ [], σ', c', m'))
  refine kcall0 rfl (hk _ _ _ _ _ _ (e_X12_in (d + 6) S hs a4 0 1 _ ?_))
  show X (8, [some (.ref 76), some (.int a1), some (.int a2), some (.int a3), some (.int a4), none, none, none, none, none], [.int (r_X12_in a4 0 1)], st S hs, 0, 0)
  refine hX _ ?_
  clear hP hX hk P' X cal
  refine Wp.stepsG 1 (fun cal X P' hk hX hP => ?_)
  show (¬ (r_X12_in a4 0 1) = 0 → X (15, [some (.ref 76), some (.int a1), some (.int a2), some (.int a3), some (.int a4), none, none, none, none, none], [], st S hs, 0, 0)) ∧ ((r_X12_in a4 0 1) = 0 → X (11, [some (.ref 76), some (.int a1), some (.int a2), some (.int a3), some (.int a4), none, none, none, none, none], [], st S hs, 0, 0))
  refine ⟨fun hc => hX _ ?_, fun hc => hX _ ?_⟩
  · clear hP hX hk P' X cal
    rw [if_neg hc] at hr
    refine Wp.stepsG 3 (fun cal X P' hk hX hP => ?_)
    show kcall cal ix_X12_isTable [.ref 76, .int a1] (st S hs) [] 0 0 (0, 0) (fun v σ' c' m' => X (20, [some (.ref 76), some (.int a1), some (.int a2), some (.int a3), some (.int a4), none, none, none, none, none], v.toList ++ [], σ', c', m'))
    refine kcall0 rfl (hk _ _ _ _ _ _ (e_X12_isTable (d + 5) S hs a1 _ ?_))
    show X (20, [some (.ref 76), some (.int a1), some (.int a2), some (.int a3), some (.int a4), none, none, none, none, none], [.int (r_X12_isTable S a1)], st S hs, 0, 0)
    refine hX _ ?_
    clear hP hX hk P' X cal
    refine Wp.stepsG 1 (fun cal X P' hk hX hP => ?_)
    show ((r_X12_isTable S a1) = 0 → X (42, [some (.ref 76), some (.int a1), some (.int a2), some (.int a3), some (.int a4), none, none, none, none, none], [], st S hs, 0, 0)) ∧ (¬ (r_X12_isTable S a1) = 0 → X (23, [some (.ref 76), some (.int a1), some (.int a2), some (.int a3), some (.int a4), none, none, none, none, none], [], st S hs, 0, 0))
    refine ⟨fun hc => hX _ ?_, fun hc => hX _ ?_⟩
    · clear hP hX hk P' X cal
      rw [if_pos hc] at hr
      have hr := Option.some.inj hr
      subst hr
      refine Wp.stepsG 2 (fun cal X P' hk hX hP => ?_)
      exact hP _ _ h
    · clear hP hX hk P' X cal
      rw [if_neg hc] at hr
      refine Wp.stepsG 3 (fun cal X P' hk hX hP => ?_)
      show kcall cal ix_X12_isTable [.ref 76, .int a2] (st S hs) [] 0 0 (0, 0) (fun v σ' c' m' => X (28, [some (.ref 76), some (.int a1), some (.int a2), some (.int a3), some (.int a4), none, none, none, none, none], v.toList ++ [], σ', c', m'))
      refine kcall0 rfl (hk _ _ _ _ _ _ (e_X12_isTable (d + 5) S hs a2 _ ?_))
      show X (28, [some (.ref 76), some (.int a1), some (.int a2), some (.int a3), some (.int a4), none, none, none, none, none], [.int (r_X12_isTable S a2)], st S hs, 0, 0)
      refine hX _ ?_
      clear hP hX hk P' X cal
      refine Wp.stepsG 1 (fun cal X P' hk hX hP => ?_)
      show ((r_X12_isTable S a2) = 0 → X (42, [some (.ref 76), some (.int a1), some (.int a2), some (.int a3), some (.int a4), none, none, none, none, none], [], st S hs, 0, 0)) ∧ (¬ (r_X12_isTable S a2) = 0 → X (31, [some (.ref 76), some (.int a1), some (.int a2), some (.int a3), some (.int a4), none, none, none, none, none], [], st S hs, 0, 0))
      refine ⟨fun hc => hX _ ?_, fun hc => hX _ ?_⟩
      · clear hP hX hk P' X cal
        rw [if_pos hc] at hr
        have hr := Option.some.inj hr
        subst hr
        refine Wp.stepsG 2 (fun cal X P' hk hX hP => ?_)
        exact hP _ _ h
      · clear hP hX hk P' X cal
        rw [if_neg hc] at hr
        refine Wp.stepsG 5 (fun cal X P' hk hX hP => ?_)
        show kcall cal ix_X12_in [.ref 76, .int a3, .int 1, .int 60] (st S hs) [] 0 0 (0, 0) (fun v σ' c' m' => X (39, [some (.ref 76), some (.int a1), some (.int a2), some (.int a3), some (.int a4), none, none, none, none, none], v.toList ++ [], σ', c', m'))
        refine kcall0 rfl (hk _ _ _ _ _ _ (e_X12_in (d + 6) S hs a3 1 60 _ ?_))
        show X (39, [some (.ref 76), some (.int a1), some (.int a2), some (.int a3), some (.int a4), none, none, none, none, none], [.int (r_X12_in a3 1 60)], st S hs, 0, 0)
        refine hX _ ?_
        clear hP hX hk P' X cal
        refine Wp.stepsG 1 (fun cal X P' hk hX hP => ?_)
        show (¬ (r_X12_in a3 1 60) = 0 → X (46, [some (.ref 76), some (.int a1), some (.int a2), some (.int a3), some (.int a4), none, none, none, none, none], [], st S hs, 0, 0)) ∧ ((r_X12_in a3 1 60) = 0 → X (42, [some (.ref 76), some (.int a1), some (.int a2), some (.int a3), some (.int a4), none, none, none, none, none], [], st S hs, 0, 0))
        refine ⟨fun hc => hX _ ?_, fun hc => hX _ ?_⟩
        · clear hP hX hk P' X cal
          rw [if_neg hc] at hr
          refine Wp.stepsG 4 (fun cal X P' hk hX hP => ?_)
          show (2 ≤ (S.1 76 0) → X (58, [some (.ref 76), some (.int a1), some (.int a2), some (.int a3), some (.int a4), none, none, none, none, none], [], st S hs, 0, 0)) ∧ (¬ 2 ≤ (S.1 76 0) → X (54, [some (.ref 76), some (.int a1), some (.int a2), some (.int a3), some (.int a4), none, none, none, none, none], [], st S hs, 0, 0))
          refine ⟨fun hc => hX _ ?_, fun hc => hX _ ?_⟩
          · clear hP hX hk P' X cal
            rw [if_pos hc] at hr
            refine Wp.stepsG 6 (fun cal X P' hk hX hP => ?_)
            show X (67, [some (.ref 76), some (.int a1), some (.int a2), some (.int a3), some (.int a4), some (.int (-1)), some (.int 0), some (.int 0), none, none], [], st S hs, 0, 0)
            refine hX _ ?_
            clear hP hX hk P' X cal
            obtain ⟨q6, hq6, hr⟩ := bd_some hr
            refine (e_lp_X12_keep_67 d hs P a1 a2 a3 a4 _ (-1) 0 0 S q6 hq6 ?_)
            refine Wp.stepsG 2 (fun cal X P' hk hX hP => ?_)
            show (¬ a4 = 0 → X (188, [some (.ref 76), some (.int a1), some (.int a2), some (.int a3), some (.int a4), some (.int q6.1), some (.int q6.2.1), none, none, none], [], st q6.2.2 hs, 0, 0)) ∧ (a4 = 0 → X (183, [some (.ref 76), some (.int a1), some (.int a2), some (.int a3), some (.int a4), some (.int q6.1), some (.int q6.2.1), none, none, none], [], st q6.2.2 hs, 0, 0))
            refine ⟨fun hc => hX _ ?_, fun hc => hX _ ?_⟩
            · clear hP hX hk P' X cal
              rw [if_neg hc] at hr
              have hr := Option.some.inj hr
              subst hr
              refine Wp.stepsG 2 (fun cal X P' hk hX hP => ?_)
              exact hP _ _ h
            · clear hP hX hk P' X cal
              rw [if_pos hc] at hr
              have hr := Option.some.inj hr
              subst hr
              refine Wp.stepsG 3 (fun cal X P' hk hX hP => ?_)
              exact hP _ _ h
          · clear hP hX hk P' X cal
            rw [if_neg hc] at hr
            have hr := Option.some.inj hr
            subst hr
            refine Wp.stepsG 2 (fun cal X P' hk hX hP => ?_)
            exact hP _ _ h
        · clear hP hX hk P' X cal
          rw [if_pos hc] at hr
          have hr := Option.some.inj hr
          subst hr
          refine Wp.stepsG 2 (fun cal X P' hk hX hP => ?_)
          exact hP _ _ h
  · clear hP hX hk P' X cal
    rw [if_pos hc] at hr
    have hr := Option.some.inj hr
    subst hr
    refine Wp.stepsG 2 (fun cal X P' hk hX hP => ?_)
    exact hP _ _ h
def lp_X12_nextRow_4 : Nat → Int32 → St → Option (Nat × St)
  | 0, _, _ => none
  | n + 1, v2, S =>
    if v2 < 0 then
      some (1, S)
    else
      gd (¬ (v2 < 0 ∨ 3 ≤ v2.toNatClampNeg)) (
        gd (¬ (v2 < 0 ∨ 3 ≤ v2.toNatClampNeg)) (
          gd (¬ (v2 < 0 ∨ 3 ≤ v2.toNatClampNeg)) (
            if (S.1 76 0) ≤ ((upd (S.1 97) v2.toNatClampNeg (((S.1 97) v2.toNatClampNeg) + 1)) v2.toNatClampNeg) then
              wS (sA S 97 (upd (S.1 97) v2.toNatClampNeg (((S.1 97) v2.toNatClampNeg) + 1))) fun S1 =>
              gd (¬ (v2 < 0 ∨ 3 ≤ v2.toNatClampNeg)) (
                lp_X12_nextRow_4 n (v2 + (-1)) (sA S1 97 (upd (S1.1 97) v2.toNatClampNeg 0)))
            else
              some (0, sA S 97 (upd (S.1 97) v2.toNatClampNeg (((S.1 97) v2.toNatClampNeg) + 1))))))
set_option maxRecDepth 20000 in
set_option maxHeartbeats 4000000 in
theorem e_lp_X12_nextRow_4 (d : Nat) (hs : List Hr) (P : Option Value → Hp → Prop) : ∀ (n : Nat) (v2 : Int32) (S : St) (q : Nat × St), lp_X12_nextRow_4 n v2 S = some q → (q.1 = 0 → WM mi_X12_nextRow (d + 0) P 31 [some (.ref 76), none, none] [] (st q.2 hs)) ∧ (q.1 = 1 → WM mi_X12_nextRow (d + 0) P 46 [some (.ref 76), none, none] [] (st q.2 hs)) → WM mi_X12_nextRow (d + 0) P 4 [some (.ref 76), none, some (.int v2)] [] (st S hs) := by
  intro n
  induction n with
  | zero =>
    intro v2 S q hl
    cases hl
  | succ n ih =>
    intro v2 S q hl ct
    rw [lp_X12_nextRow_4] at hl
    refine Wp.stepsG 2 (fun cal X P' hk hX hP => ?_)
    show (v2 < 0 → X (46, [some (.ref 76), none, some (.int v2)], [], st S hs, 0, 0)) ∧ (¬ v2 < 0 → X (8, [some (.ref 76), none, some (.int v2)], [], st S hs, 0, 0))
    refine ⟨fun hc => hX _ ?_, fun hc => hX _ ?_⟩
    · clear hP hX hk P' X cal
      rw [if_pos hc] at hl
      have hl := Option.some.inj hl
      subst hl
      exact Wp.weak (leL.k (leL.k (leL.n leL.z))) (ct.2 rfl)
    · clear hP hX hk P' X cal
      rw [if_neg hc] at hl
      refine Wp.stepsG 5 (fun cal X P' hk hX hP => ?_)
      show vp_in v2 3 ∧ X (15, [some (.ref 76), none, some (.int v2)], [.int ((S.1 97) v2.toNatClampNeg), .int v2, .ref 97], st S hs, 0, 0)
      obtain ⟨hg, hl⟩ := gd_some hl
      refine ⟨hg, hX _ ?_⟩
      clear hP hX hk P' X cal
      refine Wp.stepsG 3 (fun cal X P' hk hX hP => ?_)
      show vp_in v2 3 ∧ X (18, [some (.ref 76), none, some (.int v2)], [], st (sA S 97 (upd (S.1 97) v2.toNatClampNeg (((S.1 97) v2.toNatClampNeg) + 1))) hs, 0, 0)
      obtain ⟨hg, hl⟩ := gd_some hl
      refine ⟨hg, hX _ ?_⟩
      clear hP hX hk P' X cal
      refine Wp.stepsG 4 (fun cal X P' hk hX hP => ?_)
      show vp_in v2 3 ∧ X (24, [some (.ref 76), none, some (.int v2)], [.int ((upd (S.1 97) v2.toNatClampNeg (((S.1 97) v2.toNatClampNeg) + 1)) v2.toNatClampNeg)], st (sA S 97 (upd (S.1 97) v2.toNatClampNeg (((S.1 97) v2.toNatClampNeg) + 1))) hs, 0, 0)
      obtain ⟨hg, hl⟩ := gd_some hl
      refine ⟨hg, hX _ ?_⟩
      clear hP hX hk P' X cal
      refine Wp.stepsG 3 (fun cal X P' hk hX hP => ?_)
      show ((S.1 76 0) ≤ ((upd (S.1 97) v2.toNatClampNeg (((S.1 97) v2.toNatClampNeg) + 1)) v2.toNatClampNeg) → X (33, [some (.ref 76), none, some (.int v2)], [], st (sA S 97 (upd (S.1 97) v2.toNatClampNeg (((S.1 97) v2.toNatClampNeg) + 1))) hs, 0, 0)) ∧ (¬ (S.1 76 0) ≤ ((upd (S.1 97) v2.toNatClampNeg (((S.1 97) v2.toNatClampNeg) + 1)) v2.toNatClampNeg) → X (31, [some (.ref 76), none, some (.int v2)], [], st (sA S 97 (upd (S.1 97) v2.toNatClampNeg (((S.1 97) v2.toNatClampNeg) + 1))) hs, 0, 0))
      refine ⟨fun hc => hX _ ?_, fun hc => hX _ ?_⟩
      · clear hP hX hk P' X cal
        rw [if_pos hc] at hl
        refine Wp.stepsG 4 (fun cal X P' hk hX hP => ?_)
        show X (39, [some (.ref 76), none, some (.int v2)], [.int 0, .int v2, .ref 97], st (sA S 97 (upd (S.1 97) v2.toNatClampNeg (((S.1 97) v2.toNatClampNeg) + 1))) hs, 0, 0)
        refine hX _ ?_
        clear hP hX hk P' X cal
        obtain ⟨S1, hS1, hl⟩ := wS_some hl
        rw [hS1]
        refine Wp.stepsG 1 (fun cal X P' hk hX hP => ?_)
        show vp_in v2 3 ∧ X (40, [some (.ref 76), none, some (.int v2)], [], st (sA S1 97 (upd (S1.1 97) v2.toNatClampNeg 0)) hs, 0, 0)
        obtain ⟨hg, hl⟩ := gd_some hl
        refine ⟨hg, hX _ ?_⟩
        clear hP hX hk P' X cal
        refine Wp.stepsG 2 (fun cal X P' hk hX hP => ?_)
        show X (4, [some (.ref 76), none, some (.int (v2 + (-1)))], [], st (sA S1 97 (upd (S1.1 97) v2.toNatClampNeg 0)) hs, 0, 0)
        refine hX _ ?_
        exact (ih (v2 + (-1)) (sA S1 97 (upd (S1.1 97) v2.toNatClampNeg 0)) q hl ct)
      · clear hP hX hk P' X cal
        rw [if_neg hc] at hl
        have hl := Option.some.inj hl
        subst hl
        exact Wp.weak (leL.k (leL.k (leL.n leL.z))) (ct.1 rfl)
def r_X12_nextRow (S : St) (a1 : Int32) : Option (Int32 × St) :=
  (lp_X12_nextRow_4 4000 (a1 - 1) S).bind fun q2 =>
  if q2.1 = 0 then
    some (1, q2.2)
  else
    some (0, q2.2)
set_option maxRecDepth 20000 in
set_option maxHeartbeats 4000000 in
theorem e_X12_nextRow (d : Nat) (S : St) (hs : List Hr) (a1 : Int32) (v : Int32 × St) (hr : r_X12_nextRow S a1 = some v) (P : Option Value → Hp → Prop) (h : P (some (.int v.1)) (st v.2 hs)) : Ev (d + 1) ix_X12_nextRow 0 0 [.ref 76, .int a1] (st S hs) P := by
  refine Ev.intro (M := mi_X12_nextRow) rfl (Nat.le_of_ble_eq_true rfl) ?_
  unfold r_X12_nextRow at hr
  refine Wp.stepsG 4 (fun cal X P' hk hX hP => ?_)
  show X (4, [some (.ref 76), some (.int a1), some (.int (a1 - 1))], [], st S hs, 0, 0)
  refine hX _ ?_
  clear hP hX hk P' X cal
  obtain ⟨q2, hq2, hr⟩ := bd_some hr
  refine Wp.weak (leL.k (leL.n (leL.k leL.z))) (e_lp_X12_nextRow_4 d hs P _ (a1 - 1) S q2 hq2 ?_)
  refine ⟨fun hc => ?_, fun hc => ?_⟩
  · have hcc := hc
    rw [if_pos hcc] at hr
    have hr := Option.some.inj hr
    subst hr
    refine Wp.stepsG 2 (fun cal X P' hk hX hP => ?_)
    exact ⟨Or.inr rfl, hP _ _ h⟩
  · have hcc := hc
    rw [if_neg (fun z => by rw [z] at hcc; exact absurd hcc (by decide))] at hr
    have hr := Option.some.inj hr
    subst hr
    refine Wp.stepsG 2 (fun cal X P' hk hX hP => ?_)
    exact ⟨Or.inl rfl, hP _ _ h⟩
def lp_X12_asRow_10 (f1 : Int32) (f2 : Int32) (f3 : Int32) : Nat → Int32 → Int32 → St → Option (Int32 × St)
  | 0, _, _, _ => none
  | n + 1, v4, v5, S =>
    if f2 ≤ v5 then
      some (v4, S)
    else
      gd (¬ (v5 < 0 ∨ 3 ≤ v5.toNatClampNeg)) (
        (r_X12_tells S ((S.1 97) v5.toNatClampNeg) f1).bind fun q2 =>
        lp_X12_asRow_10 f1 f2 f3 n (v4 + q2.1) (v5 + 1) (sI q2.2 76 2 ((q2.2.1 76 2) + f3)))
set_option maxRecDepth 20000 in
set_option maxHeartbeats 4000000 in
theorem e_lp_X12_asRow_10 (d : Nat) (hs : List Hr) (P : Option Value → Hp → Prop) (f1 : Int32) (f2 : Int32) (f3 : Int32) : ∀ (n : Nat) (v4 : Int32) (v5 : Int32) (S : St) (q : Int32 × St), lp_X12_asRow_10 f1 f2 f3 n v4 v5 S = some q → (WM mi_X12_asRow (d + 7) P 49 [some (.ref 76), some (.int f1), some (.int f2), some (.int f3), some (.int q.1), none] [] (st q.2 hs)) → WM mi_X12_asRow (d + 7) P 10 [some (.ref 76), some (.int f1), some (.int f2), some (.int f3), some (.int v4), some (.int v5)] [] (st S hs) := by
  intro n
  induction n with
  | zero =>
    intro v4 v5 S q hl
    cases hl
  | succ n ih =>
    intro v4 v5 S q hl ct
    rw [lp_X12_asRow_10] at hl
    refine Wp.stepsG 3 (fun cal X P' hk hX hP => ?_)
    show (f2 ≤ v5 → X (49, [some (.ref 76), some (.int f1), some (.int f2), some (.int f3), some (.int v4), some (.int v5)], [], st S hs, 0, 0)) ∧ (¬ f2 ≤ v5 → X (16, [some (.ref 76), some (.int f1), some (.int f2), some (.int f3), some (.int v4), some (.int v5)], [], st S hs, 0, 0))
    refine ⟨fun hc => hX _ ?_, fun hc => hX _ ?_⟩
    · clear hP hX hk P' X cal
      rw [if_pos hc] at hl
      have hl := Option.some.inj hl
      subst hl
      exact Wp.weak (leL.k (leL.k (leL.k (leL.k (leL.k (leL.n leL.z)))))) (ct)
    · clear hP hX hk P' X cal
      rw [if_neg hc] at hl
      refine Wp.stepsG 6 (fun cal X P' hk hX hP => ?_)
      show vp_in v5 3 ∧ X (26, [some (.ref 76), some (.int f1), some (.int f2), some (.int f3), some (.int v4), some (.int v5)], [.int ((S.1 97) v5.toNatClampNeg), .ref 76, .int v4], st S hs, 0, 0)
      obtain ⟨hg, hl⟩ := gd_some hl
      refine ⟨hg, hX _ ?_⟩
      clear hP hX hk P' X cal
      refine Wp.stepsG 2 (fun cal X P' hk hX hP => ?_)
      show kcall cal ix_X12_tells [.ref 76, .int ((S.1 97) v5.toNatClampNeg), .int f1] (st S hs) [.int v4] 0 0 (0, 0) (fun v σ' c' m' => X (30, [some (.ref 76), some (.int f1), some (.int f2), some (.int f3), some (.int v4), some (.int v5)], v.toList ++ [.int v4], σ', c', m'))
      obtain ⟨q2, hq2, hl⟩ := bd_some hl
      refine kcall0 rfl (hk _ _ _ _ _ _ (e_X12_tells (d + 0) S hs ((S.1 97) v5.toNatClampNeg) f1 q2 hq2 _ ?_))
      show X (30, [some (.ref 76), some (.int f1), some (.int f2), some (.int f3), some (.int v4), some (.int v5)], [.int q2.1, .int v4], st q2.2 hs, 0, 0)
      refine hX _ ?_
      clear hP hX hk P' X cal
      refine Wp.stepsG 10 (fun cal X P' hk hX hP => ?_)
      show X (10, [some (.ref 76), some (.int f1), some (.int f2), some (.int f3), some (.int (v4 + q2.1)), some (.int (v5 + 1))], [], st (sI q2.2 76 2 ((q2.2.1 76 2) + f3)) hs, 0, 0)
      refine hX _ ?_
      exact (ih (v4 + q2.1) (v5 + 1) (sI q2.2 76 2 ((q2.2.1 76 2) + f3)) q hl ct)
def r_X12_asRow (S : St) (a1 : Int32) (a2 : Int32) (a3 : Int32) : Option (Int32 × St) :=
  (r_X12_save S).bind fun q1 =>
  (lp_X12_asRow_10 a1 a2 a3 4000 0 0 q1.2).bind fun q3 =>
    (r_X12_putBack q3.2).bind fun q4 =>
    some (q3.1, q4.2)
set_option maxRecDepth 20000 in
set_option maxHeartbeats 4000000 in
theorem e_X12_asRow (d : Nat) (S : St) (hs : List Hr) (a1 : Int32) (a2 : Int32) (a3 : Int32) (v : Int32 × St) (hr : r_X12_asRow S a1 a2 a3 = some v) (P : Option Value → Hp → Prop) (h : P (some (.int v.1)) (st v.2 hs)) : Ev (d + 8) ix_X12_asRow 0 0 [.ref 76, .int a1, .int a2, .int a3] (st S hs) P := by
  refine Ev.intro (M := mi_X12_asRow) rfl (Nat.le_of_ble_eq_true rfl) ?_
  unfold r_X12_asRow at hr
  refine Wp.stepsG 2 (fun cal X P' hk hX hP => ?_)
  show kcall cal ix_X12_save [.ref 76] (st S hs) [] 0 0 (0, 0) (fun v σ' c' m' => X (4, [some (.ref 76), some (.int a1), some (.int a2), some (.int a3), none, none], v.toList ++ [], σ', c', m'))
  obtain ⟨q1, hq1, hr⟩ := bd_some hr
  refine kcall0 rfl (hk _ _ _ _ _ _ (e_X12_save (d + 6) S hs q1 hq1 _ ?_))
  show X (4, [some (.ref 76), some (.int a1), some (.int a2), some (.int a3), none, none], [], st q1.2 hs, 0, 0)
  refine hX _ ?_
  clear hP hX hk P' X cal
  refine Wp.stepsG 4 (fun cal X P' hk hX hP => ?_)
  show X (10, [some (.ref 76), some (.int a1), some (.int a2), some (.int a3), some (.int 0), some (.int 0)], [], st q1.2 hs, 0, 0)
  refine hX _ ?_
  clear hP hX hk P' X cal
  obtain ⟨q3, hq3, hr⟩ := bd_some hr
  refine (e_lp_X12_asRow_10 d hs P a1 a2 a3 _ 0 0 q1.2 q3 hq3 ?_)
  refine Wp.stepsG 2 (fun cal X P' hk hX hP => ?_)
  show kcall cal ix_X12_putBack [.ref 76] (st q3.2 hs) [] 0 0 (0, 0) (fun v σ' c' m' => X (53, [some (.ref 76), some (.int a1), some (.int a2), some (.int a3), some (.int q3.1), none], v.toList ++ [], σ', c', m'))
  obtain ⟨q4, hq4, hr⟩ := bd_some hr
  refine kcall0 rfl (hk _ _ _ _ _ _ (e_X12_putBack (d + 6) q3.2 hs q4 hq4 _ ?_))
  show X (53, [some (.ref 76), some (.int a1), some (.int a2), some (.int a3), some (.int q3.1), none], [], st q4.2 hs, 0, 0)
  refine hX _ ?_
  clear hP hX hk P' X cal
  have hr := Option.some.inj hr
  subst hr
  refine Wp.stepsG 2 (fun cal X P' hk hX hP => ?_)
  exact hP _ _ h
def lp_X12_suppers_68 (f1 : Int32) (f2 : Int32) (f3 : Int32) (f4 : Int32) : Nat → Int32 → St → Option (St)
  | 0, _, _ => none
  | n + 1, v5, S =>
    if 3 ≤ v5 then
      some S
    else
      gd (¬ (v5 < 0 ∨ 3 ≤ v5.toNatClampNeg)) (
        lp_X12_suppers_68 f1 f2 f3 f4 n (v5 + 1) (sA S 97 (upd (S.1 97) v5.toNatClampNeg 0)))
set_option maxRecDepth 20000 in
set_option maxHeartbeats 4000000 in
theorem e_lp_X12_suppers_68 (d : Nat) (hs : List Hr) (P : Option Value → Hp → Prop) (f1 : Int32) (f2 : Int32) (f3 : Int32) (f4 : Int32) : ∀ (n : Nat) (v5 : Int32) (S : St) (q : St), lp_X12_suppers_68 f1 f2 f3 f4 n v5 S = some q → (WM mi_X12_suppers (d + 8) P 88 [some (.ref 76), some (.int f1), some (.int f2), some (.int f3), some (.int f4), none, none, none, none, none] [] (st q hs)) → WM mi_X12_suppers (d + 8) P 68 [some (.ref 76), some (.int f1), some (.int f2), some (.int f3), some (.int f4), some (.int v5), none, none, none, none] [] (st S hs) := by
  intro n
  induction n with
  | zero =>
    intro v5 S q hl
    cases hl
  | succ n ih =>
    intro v5 S q hl ct
    rw [lp_X12_suppers_68] at hl
    refine Wp.stepsG 3 (fun cal X P' hk hX hP => ?_)
    show (3 ≤ v5 → X (88, [some (.ref 76), some (.int f1), some (.int f2), some (.int f3), some (.int f4), some (.int v5), none, none, none, none], [], st S hs, 0, 0)) ∧ (¬ 3 ≤ v5 → X (74, [some (.ref 76), some (.int f1), some (.int f2), some (.int f3), some (.int f4), some (.int v5), none, none, none, none], [], st S hs, 0, 0))
    refine ⟨fun hc => hX _ ?_, fun hc => hX _ ?_⟩
    · clear hP hX hk P' X cal
      rw [if_pos hc] at hl
      have hl := Option.some.inj hl
      subst hl
      exact Wp.weak (leL.k (leL.k (leL.k (leL.k (leL.k (leL.n (leL.k (leL.k (leL.k (leL.k leL.z)))))))))) (ct)
    · clear hP hX hk P' X cal
      rw [if_neg hc] at hl
      refine Wp.stepsG 5 (fun cal X P' hk hX hP => ?_)
      show vp_in v5 3 ∧ X (82, [some (.ref 76), some (.int f1), some (.int f2), some (.int f3), some (.int f4), some (.int v5), none, none, none, none], [], st (sA S 97 (upd (S.1 97) v5.toNatClampNeg 0)) hs, 0, 0)
      obtain ⟨hg, hl⟩ := gd_some hl
      refine ⟨hg, hX _ ?_⟩
      clear hP hX hk P' X cal
      refine Wp.stepsG 2 (fun cal X P' hk hX hP => ?_)
      show X (68, [some (.ref 76), some (.int f1), some (.int f2), some (.int f3), some (.int f4), some (.int (v5 + 1)), none, none, none, none], [], st (sA S 97 (upd (S.1 97) v5.toNatClampNeg 0)) hs, 0, 0)
      refine hX _ ?_
      exact (ih (v5 + 1) (sA S 97 (upd (S.1 97) v5.toNatClampNeg 0)) q hl ct)
def lp_X12_suppers_130 (f1 : Int32) (f2 : Int32) (f3 : Int32) (f4 : Int32) (f6 : Int32) : Nat → Int32 → St → Option (St)
  | 0, _, _ => none
  | n + 1, v9, S =>
    if 3 ≤ v9 then
      some S
    else
      gd (¬ (v9 < 0 ∨ 3 ≤ v9.toNatClampNeg)) (
        gd (¬ (v9 < 0 ∨ 3 ≤ v9.toNatClampNeg)) (
          lp_X12_suppers_130 f1 f2 f3 f4 f6 n (v9 + 1) (sA S 98 (upd (S.1 98) v9.toNatClampNeg ((S.1 97) v9.toNatClampNeg)))))
set_option maxRecDepth 20000 in
set_option maxHeartbeats 4000000 in
theorem e_lp_X12_suppers_130 (d : Nat) (hs : List Hr) (P : Option Value → Hp → Prop) (f1 : Int32) (f2 : Int32) (f3 : Int32) (f4 : Int32) (f6 : Int32) : ∀ (n : Nat) (v9 : Int32) (S : St) (q : St), lp_X12_suppers_130 f1 f2 f3 f4 f6 n v9 S = some q → (WM mi_X12_suppers (d + 8) P 156 [some (.ref 76), some (.int f1), some (.int f2), some (.int f3), some (.int f4), none, some (.int f6), none, none, none] [] (st q hs)) → WM mi_X12_suppers (d + 8) P 130 [some (.ref 76), some (.int f1), some (.int f2), some (.int f3), some (.int f4), none, some (.int f6), none, none, some (.int v9)] [] (st S hs) := by
  intro n
  induction n with
  | zero =>
    intro v9 S q hl
    cases hl
  | succ n ih =>
    intro v9 S q hl ct
    rw [lp_X12_suppers_130] at hl
    refine Wp.stepsG 3 (fun cal X P' hk hX hP => ?_)
    show (3 ≤ v9 → X (156, [some (.ref 76), some (.int f1), some (.int f2), some (.int f3), some (.int f4), none, some (.int f6), none, none, some (.int v9)], [], st S hs, 0, 0)) ∧ (¬ 3 ≤ v9 → X (136, [some (.ref 76), some (.int f1), some (.int f2), some (.int f3), some (.int f4), none, some (.int f6), none, none, some (.int v9)], [], st S hs, 0, 0))
    refine ⟨fun hc => hX _ ?_, fun hc => hX _ ?_⟩
    · clear hP hX hk P' X cal
      rw [if_pos hc] at hl
      have hl := Option.some.inj hl
      subst hl
      exact Wp.weak (leL.k (leL.k (leL.k (leL.k (leL.k (leL.k (leL.k (leL.k (leL.k (leL.n leL.z)))))))))) (ct)
    · clear hP hX hk P' X cal
      rw [if_neg hc] at hl
      refine Wp.stepsG 7 (fun cal X P' hk hX hP => ?_)
      show vp_in v9 3 ∧ X (149, [some (.ref 76), some (.int f1), some (.int f2), some (.int f3), some (.int f4), none, some (.int f6), none, none, some (.int v9)], [.int ((S.1 97) v9.toNatClampNeg), .int v9, .ref 98], st S hs, 0, 0)
      obtain ⟨hg, hl⟩ := gd_some hl
      refine ⟨hg, hX _ ?_⟩
      clear hP hX hk P' X cal
      refine Wp.stepsG 1 (fun cal X P' hk hX hP => ?_)
      show vp_in v9 3 ∧ X (150, [some (.ref 76), some (.int f1), some (.int f2), some (.int f3), some (.int f4), none, some (.int f6), none, none, some (.int v9)], [], st (sA S 98 (upd (S.1 98) v9.toNatClampNeg ((S.1 97) v9.toNatClampNeg))) hs, 0, 0)
      obtain ⟨hg, hl⟩ := gd_some hl
      refine ⟨hg, hX _ ?_⟩
      clear hP hX hk P' X cal
      refine Wp.stepsG 2 (fun cal X P' hk hX hP => ?_)
      show X (130, [some (.ref 76), some (.int f1), some (.int f2), some (.int f3), some (.int f4), none, some (.int f6), none, none, some (.int (v9 + 1))], [], st (sA S 98 (upd (S.1 98) v9.toNatClampNeg ((S.1 97) v9.toNatClampNeg))) hs, 0, 0)
      refine hX _ ?_
      exact (ih (v9 + 1) (sA S 98 (upd (S.1 98) v9.toNatClampNeg ((S.1 97) v9.toNatClampNeg))) q hl ct)
def lp_X12_suppers_97 (f1 : Int32) (f2 : Int32) (f3 : Int32) (f4 : Int32) : Nat → Int32 → Int32 → Int32 → St → Option (Int32 × St)
  | 0, _, _, _, _ => none
  | n + 1, v5, v6, v7, S =>
    if v7 = 0 then
      some (v6, S)
    else
      (r_X12_asRow S f1 f2 f3).bind fun q2 =>
      if v5 = 0 then
        if q2.1 ≤ v6 then
          (r_X12_nextRow q2.2 f2).bind fun q5 =>
          lp_X12_suppers_97 f1 f2 f3 f4 n 0 v6 q5.1 q5.2
        else
          (lp_X12_suppers_130 f1 f2 f3 f4 q2.1 4000 0 q2.2).bind fun q6 =>
            (r_X12_nextRow q6 f2).bind fun q7 =>
            lp_X12_suppers_97 f1 f2 f3 f4 n 0 q2.1 q7.1 q7.2
      else
        (lp_X12_suppers_130 f1 f2 f3 f4 q2.1 4000 0 q2.2).bind fun q3 =>
          (r_X12_nextRow q3 f2).bind fun q4 =>
          lp_X12_suppers_97 f1 f2 f3 f4 n 0 q2.1 q4.1 q4.2
set_option maxRecDepth 20000 in
set_option maxHeartbeats 4000000 in
theorem e_lp_X12_suppers_97 (d : Nat) (hs : List Hr) (P : Option Value → Hp → Prop) (f1 : Int32) (f2 : Int32) (f3 : Int32) (f4 : Int32) : ∀ (n : Nat) (v5 : Int32) (v6 : Int32) (v7 : Int32) (S : St) (q : Int32 × St), lp_X12_suppers_97 f1 f2 f3 f4 n v5 v6 v7 S = some q → (WM mi_X12_suppers (d + 8) P 169 [some (.ref 76), some (.int f1), some (.int f2), some (.int f3), some (.int f4), none, some (.int q.1), none, none, none] [] (st q.2 hs)) → WM mi_X12_suppers (d + 8) P 97 [some (.ref 76), some (.int f1), some (.int f2), some (.int f3), some (.int f4), some (.int v5), some (.int v6), some (.int v7), none, none] [] (st S hs) := by
  intro n
  induction n with
  | zero =>
    intro v5 v6 v7 S q hl
    cases hl
  | succ n ih =>
    intro v5 v6 v7 S q hl ct
    rw [lp_X12_suppers_97] at hl
    refine Wp.stepsG 2 (fun cal X P' hk hX hP => ?_)
    show (v7 = 0 → X (169, [some (.ref 76), some (.int f1), some (.int f2), some (.int f3), some (.int f4), some (.int v5), some (.int v6), some (.int v7), none, none], [], st S hs, 0, 0)) ∧ (¬ v7 = 0 → X (102, [some (.ref 76), some (.int f1), some (.int f2), some (.int f3), some (.int f4), some (.int v5), some (.int v6), some (.int v7), none, none], [], st S hs, 0, 0))
    refine ⟨fun hc => hX _ ?_, fun hc => hX _ ?_⟩
    · clear hP hX hk P' X cal
      rw [if_pos hc] at hl
      have hl := Option.some.inj hl
      subst hl
      exact Wp.weak (leL.k (leL.k (leL.k (leL.k (leL.k (leL.n (leL.k (leL.n (leL.k (leL.k leL.z)))))))))) (ct)
    · clear hP hX hk P' X cal
      rw [if_neg hc] at hl
      refine Wp.stepsG 5 (fun cal X P' hk hX hP => ?_)
      show kcall cal ix_X12_asRow [.ref 76, .int f1, .int f2, .int f3] (st S hs) [] 0 0 (0, 0) (fun v σ' c' m' => X (109, [some (.ref 76), some (.int f1), some (.int f2), some (.int f3), some (.int f4), some (.int v5), some (.int v6), some (.int v7), none, none], v.toList ++ [], σ', c', m'))
      obtain ⟨q2, hq2, hl⟩ := bd_some hl
      refine kcall0 rfl (hk _ _ _ _ _ _ (e_X12_asRow (d + 0) S hs f1 f2 f3 q2 hq2 _ ?_))
      show X (109, [some (.ref 76), some (.int f1), some (.int f2), some (.int f3), some (.int f4), some (.int v5), some (.int v6), some (.int v7), none, none], [.int q2.1], st q2.2 hs, 0, 0)
      refine hX _ ?_
      clear hP hX hk P' X cal
      refine Wp.stepsG 3 (fun cal X P' hk hX hP => ?_)
      show (¬ v5 = 0 → X (123, [some (.ref 76), some (.int f1), some (.int f2), some (.int f3), some (.int f4), some (.int v5), some (.int v6), some (.int v7), some (.int q2.1), none], [], st q2.2 hs, 0, 0)) ∧ (v5 = 0 → X (116, [some (.ref 76), some (.int f1), some (.int f2), some (.int f3), some (.int f4), some (.int v5), some (.int v6), some (.int v7), some (.int q2.1), none], [], st q2.2 hs, 0, 0))
      refine ⟨fun hc => hX _ ?_, fun hc => hX _ ?_⟩
      · clear hP hX hk P' X cal
        rw [if_neg hc] at hl
        refine Wp.stepsG 4 (fun cal X P' hk hX hP => ?_)
        show X (130, [some (.ref 76), some (.int f1), some (.int f2), some (.int f3), some (.int f4), some (.int v5), some (.int q2.1), some (.int v7), some (.int q2.1), some (.int 0)], [], st q2.2 hs, 0, 0)
        refine hX _ ?_
        clear hP hX hk P' X cal
        obtain ⟨q3, hq3, hl⟩ := bd_some hl
        refine Wp.weak (leL.k (leL.k (leL.k (leL.k (leL.k (leL.n (leL.k (leL.n (leL.n (leL.k leL.z)))))))))) (e_lp_X12_suppers_130 d hs P f1 f2 f3 f4 q2.1 _ 0 q2.2 q3 hq3 ?_)
        refine Wp.stepsG 5 (fun cal X P' hk hX hP => ?_)
        show kcall cal ix_X12_nextRow [.ref 76, .int f2] (st q3 hs) [] 0 0 (0, 0) (fun v σ' c' m' => X (164, [some (.ref 76), some (.int f1), some (.int f2), some (.int f3), some (.int f4), some (.int 0), some (.int q2.1), none, none, none], v.toList ++ [], σ', c', m'))
        obtain ⟨q4, hq4, hl⟩ := bd_some hl
        refine kcall0 rfl (hk _ _ _ _ _ _ (e_X12_nextRow (d + 7) q3 hs f2 q4 hq4 _ ?_))
        show X (164, [some (.ref 76), some (.int f1), some (.int f2), some (.int f3), some (.int f4), some (.int 0), some (.int q2.1), none, none, none], [.int q4.1], st q4.2 hs, 0, 0)
        refine hX _ ?_
        clear hP hX hk P' X cal
        refine Wp.stepsG 2 (fun cal X P' hk hX hP => ?_)
        show X (97, [some (.ref 76), some (.int f1), some (.int f2), some (.int f3), some (.int f4), some (.int 0), some (.int q2.1), some (.int q4.1), none, none], [], st q4.2 hs, 0, 0)
        refine hX _ ?_
        exact (ih 0 q2.1 q4.1 q4.2 q hl ct)
      · clear hP hX hk P' X cal
        rw [if_pos hc] at hl
        refine Wp.stepsG 3 (fun cal X P' hk hX hP => ?_)
        show (q2.1 ≤ v6 → X (156, [some (.ref 76), some (.int f1), some (.int f2), some (.int f3), some (.int f4), some (.int v5), some (.int v6), some (.int v7), some (.int q2.1), none], [], st q2.2 hs, 0, 0)) ∧ (¬ q2.1 ≤ v6 → X (123, [some (.ref 76), some (.int f1), some (.int f2), some (.int f3), some (.int f4), some (.int v5), some (.int v6), some (.int v7), some (.int q2.1), none], [], st q2.2 hs, 0, 0))
        refine ⟨fun hc => hX _ ?_, fun hc => hX _ ?_⟩
        · clear hP hX hk P' X cal
          rw [if_pos hc] at hl
          refine Wp.stepsG 5 (fun cal X P' hk hX hP => ?_)
          show kcall cal ix_X12_nextRow [.ref 76, .int f2] (st q2.2 hs) [] 0 0 (0, 0) (fun v σ' c' m' => X (164, [some (.ref 76), some (.int f1), some (.int f2), some (.int f3), some (.int f4), some (.int 0), some (.int v6), some (.int v7), some (.int q2.1), none], v.toList ++ [], σ', c', m'))
          obtain ⟨q5, hq5, hl⟩ := bd_some hl
          refine kcall0 rfl (hk _ _ _ _ _ _ (e_X12_nextRow (d + 7) q2.2 hs f2 q5 hq5 _ ?_))
          show X (164, [some (.ref 76), some (.int f1), some (.int f2), some (.int f3), some (.int f4), some (.int 0), some (.int v6), some (.int v7), some (.int q2.1), none], [.int q5.1], st q5.2 hs, 0, 0)
          refine hX _ ?_
          clear hP hX hk P' X cal
          refine Wp.stepsG 2 (fun cal X P' hk hX hP => ?_)
          show X (97, [some (.ref 76), some (.int f1), some (.int f2), some (.int f3), some (.int f4), some (.int 0), some (.int v6), some (.int q5.1), some (.int q2.1), none], [], st q5.2 hs, 0, 0)
          refine hX _ ?_
          exact Wp.weak (leL.k (leL.k (leL.k (leL.k (leL.k (leL.k (leL.k (leL.k (leL.n (leL.k leL.z)))))))))) (ih 0 v6 q5.1 q5.2 q hl ct)
        · clear hP hX hk P' X cal
          rw [if_neg hc] at hl
          refine Wp.stepsG 4 (fun cal X P' hk hX hP => ?_)
          show X (130, [some (.ref 76), some (.int f1), some (.int f2), some (.int f3), some (.int f4), some (.int v5), some (.int q2.1), some (.int v7), some (.int q2.1), some (.int 0)], [], st q2.2 hs, 0, 0)
          refine hX _ ?_
          clear hP hX hk P' X cal
          obtain ⟨q6, hq6, hl⟩ := bd_some hl
          refine Wp.weak (leL.k (leL.k (leL.k (leL.k (leL.k (leL.n (leL.k (leL.n (leL.n (leL.k leL.z)))))))))) (e_lp_X12_suppers_130 d hs P f1 f2 f3 f4 q2.1 _ 0 q2.2 q6 hq6 ?_)
          refine Wp.stepsG 5 (fun cal X P' hk hX hP => ?_)
          show kcall cal ix_X12_nextRow [.ref 76, .int f2] (st q6 hs) [] 0 0 (0, 0) (fun v σ' c' m' => X (164, [some (.ref 76), some (.int f1), some (.int f2), some (.int f3), some (.int f4), some (.int 0), some (.int q2.1), none, none, none], v.toList ++ [], σ', c', m'))
          obtain ⟨q7, hq7, hl⟩ := bd_some hl
          refine kcall0 rfl (hk _ _ _ _ _ _ (e_X12_nextRow (d + 7) q6 hs f2 q7 hq7 _ ?_))
          show X (164, [some (.ref 76), some (.int f1), some (.int f2), some (.int f3), some (.int f4), some (.int 0), some (.int q2.1), none, none, none], [.int q7.1], st q7.2 hs, 0, 0)
          refine hX _ ?_
          clear hP hX hk P' X cal
          refine Wp.stepsG 2 (fun cal X P' hk hX hP => ?_)
          show X (97, [some (.ref 76), some (.int f1), some (.int f2), some (.int f3), some (.int f4), some (.int 0), some (.int q2.1), some (.int q7.1), none, none], [], st q7.2 hs, 0, 0)
          refine hX _ ?_
          exact (ih 0 q2.1 q7.1 q7.2 q hl ct)
def r_X12_suppers (S : St) (a1 : Int32) (a2 : Int32) (a3 : Int32) (a4 : Int32) : Option (Int32 × St) :=
  if (r_X12_in a4 (-1) 2) = 0 then
    some ((-10001), S)
  else
    if (r_X12_isTable S a1) = 0 then
      some ((-10002), S)
    else
      if (r_X12_in a2 1 3) = 0 then
        some ((-10002), S)
      else
        if (r_X12_in a3 1 30) = 0 then
          some ((-10002), S)
        else
          if (S.1 76 0) = 0 then
            some ((-10005), S)
          else
            if a4 < a2 then
              (lp_X12_suppers_68 a1 a2 a3 a4 4000 0 S).bind fun q1 =>
                (lp_X12_suppers_97 a1 a2 a3 a4 4000 1 0 1 q1).bind fun q8 =>
                  if 0 ≤ a4 then
                    gd (¬ (a4 < 0 ∨ 3 ≤ a4.toNatClampNeg)) (
                      some ((q8.2.1 98) a4.toNatClampNeg, q8.2))
                  else
                    some (q8.1, q8.2)
            else
              some ((-10005), S)
set_option maxRecDepth 20000 in
set_option maxHeartbeats 4000000 in
theorem e_X12_suppers (d : Nat) (S : St) (hs : List Hr) (a1 : Int32) (a2 : Int32) (a3 : Int32) (a4 : Int32) (v : Int32 × St) (hr : r_X12_suppers S a1 a2 a3 a4 = some v) (P : Option Value → Hp → Prop) (h : P (some (.int v.1)) (st v.2 hs)) : Ev (d + 9) ix_X12_suppers 0 0 [.ref 76, .int a1, .int a2, .int a3, .int a4] (st S hs) P := by
  refine Ev.intro (M := mi_X12_suppers) rfl (Nat.le_of_ble_eq_true rfl) ?_
  unfold r_X12_suppers at hr
  refine Wp.stepsG 5 (fun cal X P' hk hX hP => ?_)
  show kcall cal ix_X12_in [.ref 76, .int a4, .int (-1), .int 2] (st S hs) [] 0 0 (0, 0) (fun v σ' c' m' => X (8, [some (.ref 76), some (.int a1), some (.int a2), some (.int a3), some (.int a4), none, none, none, none, none], v.toList ++ [], σ', c', m'))
  refine kcall0 rfl (hk _ _ _ _ _ _ (e_X12_in (d + 7) S hs a4 (-1) 2 _ ?_))
  show X (8, [some (.ref 76), some (.int a1), some (.int a2), some (.int a3), some (.int a4), none, none, none, none, none], [.int (r_X12_in a4 (-1) 2)], st S hs, 0, 0)
  refine hX _ ?_
  clear hP hX hk P' X cal
  refine Wp.stepsG 1 (fun cal X P' hk hX hP => ?_)
  show (¬ (r_X12_in a4 (-1) 2) = 0 → X (15, [some (.ref 76), some (.int a1), some (.int a2), some (.int a3), some (.int a4), none, none, none, none, none], [], st S hs, 0, 0)) ∧ ((r_X12_in a4 (-1) 2) = 0 → X (11, [some (.ref 76), some (.int a1), some (.int a2), some (.int a3), some (.int a4), none, none, none, none, none], [], st S hs, 0, 0))
  refine ⟨fun hc => hX _ ?_, fun hc => hX _ ?_⟩
  · clear hP hX hk P' X cal
    rw [if_neg hc] at hr
    refine Wp.stepsG 3 (fun cal X P' hk hX hP => ?_)
    show kcall cal ix_X12_isTable [.ref 76, .int a1] (st S hs) [] 0 0 (0, 0) (fun v σ' c' m' => X (20, [some (.ref 76), some (.int a1), some (.int a2), some (.int a3), some (.int a4), none, none, none, none, none], v.toList ++ [], σ', c', m'))
    refine kcall0 rfl (hk _ _ _ _ _ _ (e_X12_isTable (d + 6) S hs a1 _ ?_))
    show X (20, [some (.ref 76), some (.int a1), some (.int a2), some (.int a3), some (.int a4), none, none, none, none, none], [.int (r_X12_isTable S a1)], st S hs, 0, 0)
    refine hX _ ?_
    clear hP hX hk P' X cal
    refine Wp.stepsG 1 (fun cal X P' hk hX hP => ?_)
    show ((r_X12_isTable S a1) = 0 → X (44, [some (.ref 76), some (.int a1), some (.int a2), some (.int a3), some (.int a4), none, none, none, none, none], [], st S hs, 0, 0)) ∧ (¬ (r_X12_isTable S a1) = 0 → X (23, [some (.ref 76), some (.int a1), some (.int a2), some (.int a3), some (.int a4), none, none, none, none, none], [], st S hs, 0, 0))
    refine ⟨fun hc => hX _ ?_, fun hc => hX _ ?_⟩
    · clear hP hX hk P' X cal
      rw [if_pos hc] at hr
      have hr := Option.some.inj hr
      subst hr
      refine Wp.stepsG 2 (fun cal X P' hk hX hP => ?_)
      exact hP _ _ h
    · clear hP hX hk P' X cal
      rw [if_neg hc] at hr
      refine Wp.stepsG 5 (fun cal X P' hk hX hP => ?_)
      show kcall cal ix_X12_in [.ref 76, .int a2, .int 1, .int 3] (st S hs) [] 0 0 (0, 0) (fun v σ' c' m' => X (30, [some (.ref 76), some (.int a1), some (.int a2), some (.int a3), some (.int a4), none, none, none, none, none], v.toList ++ [], σ', c', m'))
      refine kcall0 rfl (hk _ _ _ _ _ _ (e_X12_in (d + 7) S hs a2 1 3 _ ?_))
      show X (30, [some (.ref 76), some (.int a1), some (.int a2), some (.int a3), some (.int a4), none, none, none, none, none], [.int (r_X12_in a2 1 3)], st S hs, 0, 0)
      refine hX _ ?_
      clear hP hX hk P' X cal
      refine Wp.stepsG 1 (fun cal X P' hk hX hP => ?_)
      show ((r_X12_in a2 1 3) = 0 → X (44, [some (.ref 76), some (.int a1), some (.int a2), some (.int a3), some (.int a4), none, none, none, none, none], [], st S hs, 0, 0)) ∧ (¬ (r_X12_in a2 1 3) = 0 → X (33, [some (.ref 76), some (.int a1), some (.int a2), some (.int a3), some (.int a4), none, none, none, none, none], [], st S hs, 0, 0))
      refine ⟨fun hc => hX _ ?_, fun hc => hX _ ?_⟩
      · clear hP hX hk P' X cal
        rw [if_pos hc] at hr
        have hr := Option.some.inj hr
        subst hr
        refine Wp.stepsG 2 (fun cal X P' hk hX hP => ?_)
        exact hP _ _ h
      · clear hP hX hk P' X cal
        rw [if_neg hc] at hr
        refine Wp.stepsG 5 (fun cal X P' hk hX hP => ?_)
        show kcall cal ix_X12_in [.ref 76, .int a3, .int 1, .int 30] (st S hs) [] 0 0 (0, 0) (fun v σ' c' m' => X (41, [some (.ref 76), some (.int a1), some (.int a2), some (.int a3), some (.int a4), none, none, none, none, none], v.toList ++ [], σ', c', m'))
        refine kcall0 rfl (hk _ _ _ _ _ _ (e_X12_in (d + 7) S hs a3 1 30 _ ?_))
        show X (41, [some (.ref 76), some (.int a1), some (.int a2), some (.int a3), some (.int a4), none, none, none, none, none], [.int (r_X12_in a3 1 30)], st S hs, 0, 0)
        refine hX _ ?_
        clear hP hX hk P' X cal
        refine Wp.stepsG 1 (fun cal X P' hk hX hP => ?_)
        show (¬ (r_X12_in a3 1 30) = 0 → X (48, [some (.ref 76), some (.int a1), some (.int a2), some (.int a3), some (.int a4), none, none, none, none, none], [], st S hs, 0, 0)) ∧ ((r_X12_in a3 1 30) = 0 → X (44, [some (.ref 76), some (.int a1), some (.int a2), some (.int a3), some (.int a4), none, none, none, none, none], [], st S hs, 0, 0))
        refine ⟨fun hc => hX _ ?_, fun hc => hX _ ?_⟩
        · clear hP hX hk P' X cal
          rw [if_neg hc] at hr
          refine Wp.stepsG 3 (fun cal X P' hk hX hP => ?_)
          show ((S.1 76 0) = 0 → X (61, [some (.ref 76), some (.int a1), some (.int a2), some (.int a3), some (.int a4), none, none, none, none, none], [], st S hs, 0, 0)) ∧ (¬ (S.1 76 0) = 0 → X (55, [some (.ref 76), some (.int a1), some (.int a2), some (.int a3), some (.int a4), none, none, none, none, none], [], st S hs, 0, 0))
          refine ⟨fun hc => hX _ ?_, fun hc => hX _ ?_⟩
          · clear hP hX hk P' X cal
            rw [if_pos hc] at hr
            have hr := Option.some.inj hr
            subst hr
            refine Wp.stepsG 2 (fun cal X P' hk hX hP => ?_)
            exact hP _ _ h
          · clear hP hX hk P' X cal
            rw [if_neg hc] at hr
            refine Wp.stepsG 3 (fun cal X P' hk hX hP => ?_)
            show (a4 < a2 → X (65, [some (.ref 76), some (.int a1), some (.int a2), some (.int a3), some (.int a4), none, none, none, none, none], [], st S hs, 0, 0)) ∧ (¬ a4 < a2 → X (61, [some (.ref 76), some (.int a1), some (.int a2), some (.int a3), some (.int a4), none, none, none, none, none], [], st S hs, 0, 0))
            refine ⟨fun hc => hX _ ?_, fun hc => hX _ ?_⟩
            · clear hP hX hk P' X cal
              rw [if_pos hc] at hr
              refine Wp.stepsG 2 (fun cal X P' hk hX hP => ?_)
              show X (68, [some (.ref 76), some (.int a1), some (.int a2), some (.int a3), some (.int a4), some (.int 0), none, none, none, none], [], st S hs, 0, 0)
              refine hX _ ?_
              clear hP hX hk P' X cal
              obtain ⟨q1, hq1, hr⟩ := bd_some hr
              refine (e_lp_X12_suppers_68 d hs P a1 a2 a3 a4 _ 0 S q1 hq1 ?_)
              refine Wp.stepsG 6 (fun cal X P' hk hX hP => ?_)
              show X (97, [some (.ref 76), some (.int a1), some (.int a2), some (.int a3), some (.int a4), some (.int 1), some (.int 0), some (.int 1), none, none], [], st q1 hs, 0, 0)
              refine hX _ ?_
              clear hP hX hk P' X cal
              obtain ⟨q8, hq8, hr⟩ := bd_some hr
              refine (e_lp_X12_suppers_97 d hs P a1 a2 a3 a4 _ 1 0 1 q1 q8 hq8 ?_)
              refine Wp.stepsG 2 (fun cal X P' hk hX hP => ?_)
              show (0 ≤ a4 → X (179, [some (.ref 76), some (.int a1), some (.int a2), some (.int a3), some (.int a4), none, some (.int q8.1), none, none, none], [], st q8.2 hs, 0, 0)) ∧ (¬ 0 ≤ a4 → X (174, [some (.ref 76), some (.int a1), some (.int a2), some (.int a3), some (.int a4), none, some (.int q8.1), none, none, none], [], st q8.2 hs, 0, 0))
              refine ⟨fun hc => hX _ ?_, fun hc => hX _ ?_⟩
              · clear hP hX hk P' X cal
                rw [if_pos hc] at hr
                refine Wp.stepsG 4 (fun cal X P' hk hX hP => ?_)
                show vp_in a4 3 ∧ X (186, [some (.ref 76), some (.int a1), some (.int a2), some (.int a3), some (.int a4), none, some (.int q8.1), none, none, none], [.int ((q8.2.1 98) a4.toNatClampNeg)], st q8.2 hs, 0, 0)
                obtain ⟨hg, hr⟩ := gd_some hr
                refine ⟨hg, hX _ ?_⟩
                clear hP hX hk P' X cal
                have hr := Option.some.inj hr
                subst hr
                refine Wp.stepsG 1 (fun cal X P' hk hX hP => ?_)
                exact hP _ _ h
              · clear hP hX hk P' X cal
                rw [if_neg hc] at hr
                have hr := Option.some.inj hr
                subst hr
                refine Wp.stepsG 3 (fun cal X P' hk hX hP => ?_)
                exact hP _ _ h
            · clear hP hX hk P' X cal
              rw [if_neg hc] at hr
              have hr := Option.some.inj hr
              subst hr
              refine Wp.stepsG 2 (fun cal X P' hk hX hP => ?_)
              exact hP _ _ h
        · clear hP hX hk P' X cal
          rw [if_pos hc] at hr
          have hr := Option.some.inj hr
          subst hr
          refine Wp.stepsG 2 (fun cal X P' hk hX hP => ?_)
          exact hP _ _ h
  · clear hP hX hk P' X cal
    rw [if_pos hc] at hr
    have hr := Option.some.inj hr
    subst hr
    refine Wp.stepsG 2 (fun cal X P' hk hX hP => ?_)
    exact hP _ _ h
def lp_X12_layOrder_4 (S : St) (f1 : Int32) : Nat → Int32 → Int32 → Option (Int32)
  | 0, _, _ => none
  | n + 1, v2, v3 =>
    if (S.1 76 1) ≤ v3 then
      some v2
    else
      lp_X12_layOrder_4 S f1 n (v2 * v3) (v3 + 1)
set_option maxRecDepth 20000 in
set_option maxHeartbeats 4000000 in
theorem e_lp_X12_layOrder_4 (d : Nat) (hs : List Hr) (P : Option Value → Hp → Prop) (S : St) (f1 : Int32) : ∀ (n : Nat) (v2 : Int32) (v3 : Int32) (q : Int32), lp_X12_layOrder_4 S f1 n v2 v3 = some q → (WM mi_X12_layOrder (d + 1) P 22 [some (.ref 76), some (.int f1), some (.int q), none, none, none, none, none] [] (st S hs)) → WM mi_X12_layOrder (d + 1) P 4 [some (.ref 76), some (.int f1), some (.int v2), some (.int v3), none, none, none, none] [] (st S hs) := by
  intro n
  induction n with
  | zero =>
    intro v2 v3 q hl
    cases hl
  | succ n ih =>
    intro v2 v3 q hl ct
    rw [lp_X12_layOrder_4] at hl
    refine Wp.stepsG 4 (fun cal X P' hk hX hP => ?_)
    show ((S.1 76 1) ≤ v3 → X (22, [some (.ref 76), some (.int f1), some (.int v2), some (.int v3), none, none, none, none], [], st S hs, 0, 0)) ∧ (¬ (S.1 76 1) ≤ v3 → X (12, [some (.ref 76), some (.int f1), some (.int v2), some (.int v3), none, none, none, none], [], st S hs, 0, 0))
    refine ⟨fun hc => hX _ ?_, fun hc => hX _ ?_⟩
    · clear hP hX hk P' X cal
      rw [if_pos hc] at hl
      have hl := Option.some.inj hl
      subst hl
      exact Wp.weak (leL.k (leL.k (leL.k (leL.n (leL.k (leL.k (leL.k (leL.k leL.z)))))))) (ct)
    · clear hP hX hk P' X cal
      rw [if_neg hc] at hl
      refine Wp.stepsG 6 (fun cal X P' hk hX hP => ?_)
      show X (4, [some (.ref 76), some (.int f1), some (.int (v2 * v3)), some (.int (v3 + 1)), none, none, none, none], [], st S hs, 0, 0)
      refine hX _ ?_
      exact (ih (v2 * v3) (v3 + 1) q hl ct)
def lp_X12_layOrder_85 (f2 : Int32) (f3 : Int32) (f4 : Int32) (f5 : Int32) : Nat → Int32 → Int32 → Option (Int32)
  | 0, _, _ => none
  | n + 1, v6, v7 =>
    if (r_X12_has f3 v7) = 0 then
      if (r_X12_has f3 v7) = 0 then
        lp_X12_layOrder_85 f2 f3 f4 f5 n (v6 - 0) (v7 + 1)
      else
        lp_X12_layOrder_85 f2 f3 f4 f5 n (v6 - 1) (v7 + 1)
    else
      if v6 ≤ 0 then
        some v7
      else
        if (r_X12_has f3 v7) = 0 then
          lp_X12_layOrder_85 f2 f3 f4 f5 n (v6 - 0) (v7 + 1)
        else
          lp_X12_layOrder_85 f2 f3 f4 f5 n (v6 - 1) (v7 + 1)
set_option maxRecDepth 20000 in
set_option maxHeartbeats 4000000 in
theorem e_lp_X12_layOrder_85 (d : Nat) (hs : List Hr) (P : Option Value → Hp → Prop) (S : St) (f2 : Int32) (f3 : Int32) (f4 : Int32) (f5 : Int32) : ∀ (n : Nat) (v6 : Int32) (v7 : Int32) (q : Int32), lp_X12_layOrder_85 f2 f3 f4 f5 n v6 v7 = some q → (WM mi_X12_layOrder (d + 1) P 126 [some (.ref 76), none, some (.int f2), some (.int f3), some (.int f4), some (.int f5), none, some (.int q)] [] (st S hs)) → WM mi_X12_layOrder (d + 1) P 85 [some (.ref 76), none, some (.int f2), some (.int f3), some (.int f4), some (.int f5), some (.int v6), some (.int v7)] [] (st S hs) := by
  intro n
  induction n with
  | zero =>
    intro v6 v7 q hl
    cases hl
  | succ n ih =>
    intro v6 v7 q hl ct
    rw [lp_X12_layOrder_85] at hl
    refine Wp.stepsG 4 (fun cal X P' hk hX hP => ?_)
    show kcall cal ix_X12_has [.ref 76, .int f3, .int v7] (st S hs) [] 0 0 (0, 0) (fun v σ' c' m' => X (92, [some (.ref 76), none, some (.int f2), some (.int f3), some (.int f4), some (.int f5), some (.int v6), some (.int v7)], v.toList ++ [], σ', c', m'))
    refine kcall0 rfl (hk _ _ _ _ _ _ (e_X12_has (d + 0) S hs f3 v7 _ ?_))
    show X (92, [some (.ref 76), none, some (.int f2), some (.int f3), some (.int f4), some (.int f5), some (.int v6), some (.int v7)], [.int (r_X12_has f3 v7)], st S hs, 0, 0)
    refine hX _ ?_
    clear hP hX hk P' X cal
    refine Wp.stepsG 1 (fun cal X P' hk hX hP => ?_)
    show ((r_X12_has f3 v7) = 0 → X (100, [some (.ref 76), none, some (.int f2), some (.int f3), some (.int f4), some (.int f5), some (.int v6), some (.int v7)], [], st S hs, 0, 0)) ∧ (¬ (r_X12_has f3 v7) = 0 → X (95, [some (.ref 76), none, some (.int f2), some (.int f3), some (.int f4), some (.int f5), some (.int v6), some (.int v7)], [], st S hs, 0, 0))
    refine ⟨fun hc => hX _ ?_, fun hc => hX _ ?_⟩
    · clear hP hX hk P' X cal
      rw [if_pos hc] at hl
      refine Wp.stepsG 5 (fun cal X P' hk hX hP => ?_)
      show kcall cal ix_X12_has [.ref 76, .int f3, .int v7] (st S hs) [.int v6] 0 0 (0, 0) (fun v σ' c' m' => X (109, [some (.ref 76), none, some (.int f2), some (.int f3), some (.int f4), some (.int f5), some (.int v6), some (.int v7)], v.toList ++ [.int v6], σ', c', m'))
      refine kcall0 rfl (hk _ _ _ _ _ _ (e_X12_has (d + 0) S hs f3 v7 _ ?_))
      show X (109, [some (.ref 76), none, some (.int f2), some (.int f3), some (.int f4), some (.int f5), some (.int v6), some (.int v7)], [.int (r_X12_has f3 v7), .int v6], st S hs, 0, 0)
      refine hX _ ?_
      clear hP hX hk P' X cal
      refine Wp.stepsG 1 (fun cal X P' hk hX hP => ?_)
      show ((r_X12_has f3 v7) = 0 → X (116, [some (.ref 76), none, some (.int f2), some (.int f3), some (.int f4), some (.int f5), some (.int v6), some (.int v7)], [.int v6], st S hs, 0, 0)) ∧ (¬ (r_X12_has f3 v7) = 0 → X (112, [some (.ref 76), none, some (.int f2), some (.int f3), some (.int f4), some (.int f5), some (.int v6), some (.int v7)], [.int v6], st S hs, 0, 0))
      refine ⟨fun hc => hX _ ?_, fun hc => hX _ ?_⟩
      · clear hP hX hk P' X cal
        rw [if_pos hc] at hl
        refine Wp.stepsG 5 (fun cal X P' hk hX hP => ?_)
        show X (85, [some (.ref 76), none, some (.int f2), some (.int f3), some (.int f4), some (.int f5), some (.int (v6 - 0)), some (.int (v7 + 1))], [], st S hs, 0, 0)
        refine hX _ ?_
        exact (ih (v6 - 0) (v7 + 1) q hl ct)
      · clear hP hX hk P' X cal
        rw [if_neg hc] at hl
        refine Wp.stepsG 6 (fun cal X P' hk hX hP => ?_)
        show X (85, [some (.ref 76), none, some (.int f2), some (.int f3), some (.int f4), some (.int f5), some (.int (v6 - 1)), some (.int (v7 + 1))], [], st S hs, 0, 0)
        refine hX _ ?_
        exact (ih (v6 - 1) (v7 + 1) q hl ct)
    · clear hP hX hk P' X cal
      rw [if_neg hc] at hl
      refine Wp.stepsG 2 (fun cal X P' hk hX hP => ?_)
      show (v6 ≤ 0 → X (126, [some (.ref 76), none, some (.int f2), some (.int f3), some (.int f4), some (.int f5), some (.int v6), some (.int v7)], [], st S hs, 0, 0)) ∧ (¬ v6 ≤ 0 → X (100, [some (.ref 76), none, some (.int f2), some (.int f3), some (.int f4), some (.int f5), some (.int v6), some (.int v7)], [], st S hs, 0, 0))
      refine ⟨fun hc => hX _ ?_, fun hc => hX _ ?_⟩
      · clear hP hX hk P' X cal
        rw [if_pos hc] at hl
        have hl := Option.some.inj hl
        subst hl
        exact Wp.weak (leL.k (leL.k (leL.k (leL.k (leL.k (leL.k (leL.n (leL.k leL.z)))))))) (ct)
      · clear hP hX hk P' X cal
        rw [if_neg hc] at hl
        refine Wp.stepsG 5 (fun cal X P' hk hX hP => ?_)
        show kcall cal ix_X12_has [.ref 76, .int f3, .int v7] (st S hs) [.int v6] 0 0 (0, 0) (fun v σ' c' m' => X (109, [some (.ref 76), none, some (.int f2), some (.int f3), some (.int f4), some (.int f5), some (.int v6), some (.int v7)], v.toList ++ [.int v6], σ', c', m'))
        refine kcall0 rfl (hk _ _ _ _ _ _ (e_X12_has (d + 0) S hs f3 v7 _ ?_))
        show X (109, [some (.ref 76), none, some (.int f2), some (.int f3), some (.int f4), some (.int f5), some (.int v6), some (.int v7)], [.int (r_X12_has f3 v7), .int v6], st S hs, 0, 0)
        refine hX _ ?_
        clear hP hX hk P' X cal
        refine Wp.stepsG 1 (fun cal X P' hk hX hP => ?_)
        show ((r_X12_has f3 v7) = 0 → X (116, [some (.ref 76), none, some (.int f2), some (.int f3), some (.int f4), some (.int f5), some (.int v6), some (.int v7)], [.int v6], st S hs, 0, 0)) ∧ (¬ (r_X12_has f3 v7) = 0 → X (112, [some (.ref 76), none, some (.int f2), some (.int f3), some (.int f4), some (.int f5), some (.int v6), some (.int v7)], [.int v6], st S hs, 0, 0))
        refine ⟨fun hc => hX _ ?_, fun hc => hX _ ?_⟩
        · clear hP hX hk P' X cal
          rw [if_pos hc] at hl
          refine Wp.stepsG 5 (fun cal X P' hk hX hP => ?_)
          show X (85, [some (.ref 76), none, some (.int f2), some (.int f3), some (.int f4), some (.int f5), some (.int (v6 - 0)), some (.int (v7 + 1))], [], st S hs, 0, 0)
          refine hX _ ?_
          exact (ih (v6 - 0) (v7 + 1) q hl ct)
        · clear hP hX hk P' X cal
          rw [if_neg hc] at hl
          refine Wp.stepsG 6 (fun cal X P' hk hX hP => ?_)
          show X (85, [some (.ref 76), none, some (.int f2), some (.int f3), some (.int f4), some (.int f5), some (.int (v6 - 1)), some (.int (v7 + 1))], [], st S hs, 0, 0)
          refine hX _ ?_
          exact (ih (v6 - 1) (v7 + 1) q hl ct)
def lp_X12_layOrder_51 : Nat → Int32 → Int32 → Int32 → Int32 → St → Option (St)
  | 0, _, _, _, _, _ => none
  | n + 1, v2, v3, v4, v5, S =>
    if (S.1 76 1) ≤ v5 then
      some S
    else
      gd (¬ ((S.1 76 1) - v5) = 0) (
        gd (¬ (v2 / ((S.1 76 1) - v5)) = 0) (
          gd (¬ (v2 / ((S.1 76 1) - v5)) = 0) (
            (lp_X12_layOrder_85 (v2 / ((S.1 76 1) - v5)) v3 (v4 - v4 / (v2 / ((S.1 76 1) - v5)) * (v2 / ((S.1 76 1) - v5))) v5 4000 (v4 / (v2 / ((S.1 76 1) - v5))) 0).bind fun q2 =>
              gd (¬ (v5 < 0 ∨ 6 ≤ v5.toNatClampNeg)) (
                lp_X12_layOrder_51 n (v2 / ((S.1 76 1) - v5)) (v3 &&& (((1 : Int32) <<< (q2 &&& 31)) ^^^ (-1))) (v4 - v4 / (v2 / ((S.1 76 1) - v5)) * (v2 / ((S.1 76 1) - v5))) (v5 + 1) (sA S 99 (upd (S.1 99) v5.toNatClampNeg q2))))))
set_option maxRecDepth 20000 in
set_option maxHeartbeats 4000000 in
theorem e_lp_X12_layOrder_51 (d : Nat) (hs : List Hr) (P : Option Value → Hp → Prop) : ∀ (n : Nat) (v2 : Int32) (v3 : Int32) (v4 : Int32) (v5 : Int32) (S : St) (q : St), lp_X12_layOrder_51 n v2 v3 v4 v5 S = some q → (WM mi_X12_layOrder (d + 1) P 150 [some (.ref 76), none, none, none, none, none, none, none] [] (st q hs)) → WM mi_X12_layOrder (d + 1) P 51 [some (.ref 76), none, some (.int v2), some (.int v3), some (.int v4), some (.int v5), none, none] [] (st S hs) := by
  intro n
  induction n with
  | zero =>
    intro v2 v3 v4 v5 S q hl
    cases hl
  | succ n ih =>
    intro v2 v3 v4 v5 S q hl ct
    rw [lp_X12_layOrder_51] at hl
    refine Wp.stepsG 4 (fun cal X P' hk hX hP => ?_)
    show ((S.1 76 1) ≤ v5 → X (150, [some (.ref 76), none, some (.int v2), some (.int v3), some (.int v4), some (.int v5), none, none], [], st S hs, 0, 0)) ∧ (¬ (S.1 76 1) ≤ v5 → X (60, [some (.ref 76), none, some (.int v2), some (.int v3), some (.int v4), some (.int v5), none, none], [], st S hs, 0, 0))
    refine ⟨fun hc => hX _ ?_, fun hc => hX _ ?_⟩
    · clear hP hX hk P' X cal
      rw [if_pos hc] at hl
      have hl := Option.some.inj hl
      subst hl
      exact Wp.weak (leL.k (leL.k (leL.n (leL.n (leL.n (leL.n (leL.k (leL.k leL.z)))))))) (ct)
    · clear hP hX hk P' X cal
      rw [if_neg hc] at hl
      refine Wp.stepsG 6 (fun cal X P' hk hX hP => ?_)
      show ¬ ((S.1 76 1) - v5) = 0 ∧ X (69, [some (.ref 76), none, some (.int v2), some (.int v3), some (.int v4), some (.int v5), none, none], [.int (v2 / ((S.1 76 1) - v5))], st S hs, 0, 0)
      obtain ⟨hg, hl⟩ := gd_some hl
      refine ⟨hg, hX _ ?_⟩
      clear hP hX hk P' X cal
      refine Wp.stepsG 4 (fun cal X P' hk hX hP => ?_)
      show ¬ (v2 / ((S.1 76 1) - v5)) = 0 ∧ X (74, [some (.ref 76), none, some (.int (v2 / ((S.1 76 1) - v5))), some (.int v3), some (.int v4), some (.int v5), none, none], [.int (v4 / (v2 / ((S.1 76 1) - v5)))], st S hs, 0, 0)
      obtain ⟨hg, hl⟩ := gd_some hl
      refine ⟨hg, hX _ ?_⟩
      clear hP hX hk P' X cal
      refine Wp.stepsG 4 (fun cal X P' hk hX hP => ?_)
      show ¬ (v2 / ((S.1 76 1) - v5)) = 0 ∧ X (80, [some (.ref 76), none, some (.int (v2 / ((S.1 76 1) - v5))), some (.int v3), some (.int v4), some (.int v5), some (.int (v4 / (v2 / ((S.1 76 1) - v5)))), none], [.int (v4 - v4 / (v2 / ((S.1 76 1) - v5)) * (v2 / ((S.1 76 1) - v5)))], st S hs, 0, 0)
      obtain ⟨hg, hl⟩ := gd_some hl
      refine ⟨hg, hX _ ?_⟩
      clear hP hX hk P' X cal
      refine Wp.stepsG 3 (fun cal X P' hk hX hP => ?_)
      show X (85, [some (.ref 76), none, some (.int (v2 / ((S.1 76 1) - v5))), some (.int v3), some (.int (v4 - v4 / (v2 / ((S.1 76 1) - v5)) * (v2 / ((S.1 76 1) - v5)))), some (.int v5), some (.int (v4 / (v2 / ((S.1 76 1) - v5)))), some (.int 0)], [], st S hs, 0, 0)
      refine hX _ ?_
      clear hP hX hk P' X cal
      obtain ⟨q2, hq2, hl⟩ := bd_some hl
      refine (e_lp_X12_layOrder_85 d hs P S (v2 / ((S.1 76 1) - v5)) v3 (v4 - v4 / (v2 / ((S.1 76 1) - v5)) * (v2 / ((S.1 76 1) - v5))) v5 _ (v4 / (v2 / ((S.1 76 1) - v5))) 0 q2 hq2 ?_)
      refine Wp.stepsG 5 (fun cal X P' hk hX hP => ?_)
      show vp_in v5 6 ∧ X (135, [some (.ref 76), none, some (.int (v2 / ((S.1 76 1) - v5))), some (.int v3), some (.int (v4 - v4 / (v2 / ((S.1 76 1) - v5)) * (v2 / ((S.1 76 1) - v5)))), some (.int v5), none, some (.int q2)], [], st (sA S 99 (upd (S.1 99) v5.toNatClampNeg q2)) hs, 0, 0)
      obtain ⟨hg, hl⟩ := gd_some hl
      refine ⟨hg, hX _ ?_⟩
      clear hP hX hk P' X cal
      refine Wp.stepsG 10 (fun cal X P' hk hX hP => ?_)
      show X (51, [some (.ref 76), none, some (.int (v2 / ((S.1 76 1) - v5))), some (.int (v3 &&& (((1 : Int32) <<< (q2 &&& 31)) ^^^ (-1)))), some (.int (v4 - v4 / (v2 / ((S.1 76 1) - v5)) * (v2 / ((S.1 76 1) - v5)))), some (.int (v5 + 1)), none, some (.int q2)], [], st (sA S 99 (upd (S.1 99) v5.toNatClampNeg q2)) hs, 0, 0)
      refine hX _ ?_
      exact Wp.weak (leL.k (leL.k (leL.k (leL.k (leL.k (leL.k (leL.k (leL.n leL.z)))))))) (ih (v2 / ((S.1 76 1) - v5)) (v3 &&& (((1 : Int32) <<< (q2 &&& 31)) ^^^ (-1))) (v4 - v4 / (v2 / ((S.1 76 1) - v5)) * (v2 / ((S.1 76 1) - v5))) (v5 + 1) (sA S 99 (upd (S.1 99) v5.toNatClampNeg q2)) q hl ct)
def r_X12_layOrder (S : St) (a1 : Int32) : Option (Int32 × St) :=
  (lp_X12_layOrder_4 S a1 4000 1 2).bind fun q1 =>
    if a1 < q1 then
      (lp_X12_layOrder_51 4000 q1 (((1 : Int32) <<< ((S.1 76 1) &&& 31)) - 2) a1 1 (sA S 99 (upd (S.1 99) (0 : Int32).toNatClampNeg 0))).bind fun q3 =>
        some (1, q3)
    else
      some (0, S)
set_option maxRecDepth 20000 in
set_option maxHeartbeats 4000000 in
theorem e_X12_layOrder (d : Nat) (S : St) (hs : List Hr) (a1 : Int32) (v : Int32 × St) (hr : r_X12_layOrder S a1 = some v) (P : Option Value → Hp → Prop) (h : P (some (.int v.1)) (st v.2 hs)) : Ev (d + 2) ix_X12_layOrder 0 0 [.ref 76, .int a1] (st S hs) P := by
  refine Ev.intro (M := mi_X12_layOrder) rfl (Nat.le_of_ble_eq_true rfl) ?_
  unfold r_X12_layOrder at hr
  refine Wp.stepsG 4 (fun cal X P' hk hX hP => ?_)
  show X (4, [some (.ref 76), some (.int a1), some (.int 1), some (.int 2), none, none, none, none], [], st S hs, 0, 0)
  refine hX _ ?_
  clear hP hX hk P' X cal
  obtain ⟨q1, hq1, hr⟩ := bd_some hr
  refine (e_lp_X12_layOrder_4 d hs P S a1 _ 1 2 q1 hq1 ?_)
  refine Wp.stepsG 3 (fun cal X P' hk hX hP => ?_)
  show (a1 < q1 → X (29, [some (.ref 76), some (.int a1), some (.int q1), none, none, none, none, none], [], st S hs, 0, 0)) ∧ (¬ a1 < q1 → X (27, [some (.ref 76), some (.int a1), some (.int q1), none, none, none, none, none], [], st S hs, 0, 0))
  refine ⟨fun hc => hX _ ?_, fun hc => hX _ ?_⟩
  · clear hP hX hk P' X cal
    rw [if_pos hc] at hr
    refine Wp.stepsG 14 (fun cal X P' hk hX hP => ?_)
    show vp_in (0 : Int32) 6 ∧ X (48, [some (.ref 76), some (.int a1), some (.int q1), some (.int (((1 : Int32) <<< ((S.1 76 1) &&& 31)) - 2)), some (.int a1), none, none, none], [], st (sA S 99 (upd (S.1 99) (0 : Int32).toNatClampNeg 0)) hs, 0, 0)
    refine ⟨(show ¬ ((0 : Int32) < 0 ∨ 6 ≤ (0 : Int32).toNatClampNeg) from by decide), hX _ ?_⟩
    clear hP hX hk P' X cal
    refine Wp.stepsG 2 (fun cal X P' hk hX hP => ?_)
    show X (51, [some (.ref 76), some (.int a1), some (.int q1), some (.int (((1 : Int32) <<< ((S.1 76 1) &&& 31)) - 2)), some (.int a1), some (.int 1), none, none], [], st (sA S 99 (upd (S.1 99) (0 : Int32).toNatClampNeg 0)) hs, 0, 0)
    refine hX _ ?_
    clear hP hX hk P' X cal
    obtain ⟨q3, hq3, hr⟩ := bd_some hr
    refine Wp.weak (leL.k (leL.n (leL.k (leL.k (leL.k (leL.k (leL.k (leL.k leL.z)))))))) (e_lp_X12_layOrder_51 d hs P _ q1 (((1 : Int32) <<< ((S.1 76 1) &&& 31)) - 2) a1 1 (sA S 99 (upd (S.1 99) (0 : Int32).toNatClampNeg 0)) q3 hq3 ?_)
    have hr := Option.some.inj hr
    subst hr
    refine Wp.stepsG 2 (fun cal X P' hk hX hP => ?_)
    exact ⟨Or.inr rfl, hP _ _ h⟩
  · clear hP hX hk P' X cal
    rw [if_neg hc] at hr
    have hr := Option.some.inj hr
    subst hr
    refine Wp.stepsG 2 (fun cal X P' hk hX hP => ?_)
    exact ⟨Or.inl rfl, hP _ _ h⟩
def lp_X12_seated_4 (S : St) (f1 : Int32) : Nat → Int32 → Int32 → Option (Int32)
  | 0, _, _ => none
  | n + 1, v2, v3 =>
    if (S.1 76 1) ≤ v3 then
      some v2
    else
      gd (¬ (S.1 76 1) = 0) (
        gd (¬ (((v3 + 1) - (v3 + 1) / (S.1 76 1) * (S.1 76 1)) < 0 ∨ 6 ≤ ((v3 + 1) - (v3 + 1) / (S.1 76 1) * (S.1 76 1)).toNatClampNeg)) (
          if (r_X12_has f1 ((S.1 99) ((v3 + 1) - (v3 + 1) / (S.1 76 1) * (S.1 76 1)).toNatClampNeg)) = 0 then
            gd (¬ (S.1 76 1) = 0) (
              gd (¬ ((((v3 + (S.1 76 1)) - 1) - ((v3 + (S.1 76 1)) - 1) / (S.1 76 1) * (S.1 76 1)) < 0 ∨ 6 ≤ (((v3 + (S.1 76 1)) - 1) - ((v3 + (S.1 76 1)) - 1) / (S.1 76 1) * (S.1 76 1)).toNatClampNeg)) (
                if (r_X12_has f1 ((S.1 99) (((v3 + (S.1 76 1)) - 1) - ((v3 + (S.1 76 1)) - 1) / (S.1 76 1) * (S.1 76 1)).toNatClampNeg)) = 0 then
                  gd (¬ (v3 < 0 ∨ 6 ≤ v3.toNatClampNeg)) (
                    if (r_X12_has f1 ((S.1 99) v3.toNatClampNeg)) = 0 then
                      lp_X12_seated_4 S f1 n (v2 + 0) (v3 + 1)
                    else
                      lp_X12_seated_4 S f1 n (v2 + 0) (v3 + 1))
                else
                  gd (¬ (v3 < 0 ∨ 6 ≤ v3.toNatClampNeg)) (
                    if (r_X12_has f1 ((S.1 99) v3.toNatClampNeg)) = 0 then
                      lp_X12_seated_4 S f1 n (v2 + 1) (v3 + 1)
                    else
                      lp_X12_seated_4 S f1 n (v2 + 0) (v3 + 1))))
          else
            gd (¬ (v3 < 0 ∨ 6 ≤ v3.toNatClampNeg)) (
              if (r_X12_has f1 ((S.1 99) v3.toNatClampNeg)) = 0 then
                lp_X12_seated_4 S f1 n (v2 + 1) (v3 + 1)
              else
                lp_X12_seated_4 S f1 n (v2 + 0) (v3 + 1))))
set_option maxRecDepth 20000 in
set_option maxHeartbeats 4000000 in
theorem e_lp_X12_seated_4 (d : Nat) (hs : List Hr) (P : Option Value → Hp → Prop) (S : St) (f1 : Int32) : ∀ (n : Nat) (v2 : Int32) (v3 : Int32) (q : Int32), lp_X12_seated_4 S f1 n v2 v3 = some q → (WM mi_X12_seated (d + 1) P 99 [some (.ref 76), some (.int f1), some (.int q), none, none] [] (st S hs)) → WM mi_X12_seated (d + 1) P 4 [some (.ref 76), some (.int f1), some (.int v2), some (.int v3), none] [] (st S hs) := by
  intro n
  induction n with
  | zero =>
    intro v2 v3 q hl
    cases hl
  | succ n ih =>
    intro v2 v3 q hl ct
    rw [lp_X12_seated_4] at hl
    refine Wp.stepsG 4 (fun cal X P' hk hX hP => ?_)
    show ((S.1 76 1) ≤ v3 → X (99, [some (.ref 76), some (.int f1), some (.int v2), some (.int v3), none], [], st S hs, 0, 0)) ∧ (¬ (S.1 76 1) ≤ v3 → X (12, [some (.ref 76), some (.int f1), some (.int v2), some (.int v3), none], [], st S hs, 0, 0))
    refine ⟨fun hc => hX _ ?_, fun hc => hX _ ?_⟩
    · clear hP hX hk P' X cal
      rw [if_pos hc] at hl
      have hl := Option.some.inj hl
      subst hl
      exact Wp.weak (leL.k (leL.k (leL.k (leL.n (leL.k leL.z))))) (ct)
    · clear hP hX hk P' X cal
      rw [if_neg hc] at hl
      refine Wp.stepsG 10 (fun cal X P' hk hX hP => ?_)
      show ¬ (S.1 76 1) = 0 ∧ X (26, [some (.ref 76), some (.int f1), some (.int v2), some (.int v3), none], [.int ((v3 + 1) - (v3 + 1) / (S.1 76 1) * (S.1 76 1)), .ref 99, .int f1, .ref 76], st S hs, 0, 0)
      obtain ⟨hg, hl⟩ := gd_some hl
      refine ⟨hg, hX _ ?_⟩
      clear hP hX hk P' X cal
      refine Wp.stepsG 1 (fun cal X P' hk hX hP => ?_)
      show vp_in ((v3 + 1) - (v3 + 1) / (S.1 76 1) * (S.1 76 1)) 6 ∧ X (27, [some (.ref 76), some (.int f1), some (.int v2), some (.int v3), none], [.int ((S.1 99) ((v3 + 1) - (v3 + 1) / (S.1 76 1) * (S.1 76 1)).toNatClampNeg), .int f1, .ref 76], st S hs, 0, 0)
      obtain ⟨hg, hl⟩ := gd_some hl
      refine ⟨hg, hX _ ?_⟩
      clear hP hX hk P' X cal
      refine Wp.stepsG 1 (fun cal X P' hk hX hP => ?_)
      show kcall cal ix_X12_has [.ref 76, .int f1, .int ((S.1 99) ((v3 + 1) - (v3 + 1) / (S.1 76 1) * (S.1 76 1)).toNatClampNeg)] (st S hs) [] 0 0 (0, 0) (fun v σ' c' m' => X (30, [some (.ref 76), some (.int f1), some (.int v2), some (.int v3), none], v.toList ++ [], σ', c', m'))
      refine kcall0 rfl (hk _ _ _ _ _ _ (e_X12_has (d + 0) S hs f1 ((S.1 99) ((v3 + 1) - (v3 + 1) / (S.1 76 1) * (S.1 76 1)).toNatClampNeg) _ ?_))
      show X (30, [some (.ref 76), some (.int f1), some (.int v2), some (.int v3), none], [.int (r_X12_has f1 ((S.1 99) ((v3 + 1) - (v3 + 1) / (S.1 76 1) * (S.1 76 1)).toNatClampNeg))], st S hs, 0, 0)
      refine hX _ ?_
      clear hP hX hk P' X cal
      refine Wp.stepsG 1 (fun cal X P' hk hX hP => ?_)
      show (¬ (r_X12_has f1 ((S.1 99) ((v3 + 1) - (v3 + 1) / (S.1 76 1) * (S.1 76 1)).toNatClampNeg)) = 0 → X (59, [some (.ref 76), some (.int f1), some (.int v2), some (.int v3), none], [], st S hs, 0, 0)) ∧ ((r_X12_has f1 ((S.1 99) ((v3 + 1) - (v3 + 1) / (S.1 76 1) * (S.1 76 1)).toNatClampNeg)) = 0 → X (33, [some (.ref 76), some (.int f1), some (.int v2), some (.int v3), none], [], st S hs, 0, 0))
      refine ⟨fun hc => hX _ ?_, fun hc => hX _ ?_⟩
      · clear hP hX hk P' X cal
        rw [if_neg hc] at hl
        refine Wp.stepsG 10 (fun cal X P' hk hX hP => ?_)
        show vp_in v3 6 ∧ X (75, [some (.ref 76), some (.int f1), some (.int v2), some (.int v3), some (.int 1)], [.int ((S.1 99) v3.toNatClampNeg), .int f1, .ref 76, .int v2], st S hs, 0, 0)
        obtain ⟨hg, hl⟩ := gd_some hl
        refine ⟨hg, hX _ ?_⟩
        clear hP hX hk P' X cal
        refine Wp.stepsG 1 (fun cal X P' hk hX hP => ?_)
        show kcall cal ix_X12_has [.ref 76, .int f1, .int ((S.1 99) v3.toNatClampNeg)] (st S hs) [.int v2] 0 0 (0, 0) (fun v σ' c' m' => X (78, [some (.ref 76), some (.int f1), some (.int v2), some (.int v3), some (.int 1)], v.toList ++ [.int v2], σ', c', m'))
        refine kcall0 rfl (hk _ _ _ _ _ _ (e_X12_has (d + 0) S hs f1 ((S.1 99) v3.toNatClampNeg) _ ?_))
        show X (78, [some (.ref 76), some (.int f1), some (.int v2), some (.int v3), some (.int 1)], [.int (r_X12_has f1 ((S.1 99) v3.toNatClampNeg)), .int v2], st S hs, 0, 0)
        refine hX _ ?_
        clear hP hX hk P' X cal
        refine Wp.stepsG 1 (fun cal X P' hk hX hP => ?_)
        show (¬ (r_X12_has f1 ((S.1 99) v3.toNatClampNeg)) = 0 → X (90, [some (.ref 76), some (.int f1), some (.int v2), some (.int v3), some (.int 1)], [.int v2], st S hs, 0, 0)) ∧ ((r_X12_has f1 ((S.1 99) v3.toNatClampNeg)) = 0 → X (81, [some (.ref 76), some (.int f1), some (.int v2), some (.int v3), some (.int 1)], [.int v2], st S hs, 0, 0))
        refine ⟨fun hc => hX _ ?_, fun hc => hX _ ?_⟩
        · clear hP hX hk P' X cal
          rw [if_neg hc] at hl
          refine Wp.stepsG 5 (fun cal X P' hk hX hP => ?_)
          show X (4, [some (.ref 76), some (.int f1), some (.int (v2 + 0)), some (.int (v3 + 1)), some (.int 1)], [], st S hs, 0, 0)
          refine hX _ ?_
          exact Wp.weak (leL.k (leL.k (leL.k (leL.k (leL.n leL.z))))) (ih (v2 + 0) (v3 + 1) q hl ct)
        · clear hP hX hk P' X cal
          rw [if_pos hc] at hl
          refine Wp.stepsG 2 (fun cal X P' hk hX hP => ?_)
          show ((1 : Int32) = 0 → X (90, [some (.ref 76), some (.int f1), some (.int v2), some (.int v3), some (.int 1)], [.int v2], st S hs, 0, 0)) ∧ (¬ (1 : Int32) = 0 → X (86, [some (.ref 76), some (.int f1), some (.int v2), some (.int v3), some (.int 1)], [.int v2], st S hs, 0, 0))
          refine ⟨fun hc => absurd hc (by decide), fun _ => hX _ ?_⟩
          clear hP hX hk P' X cal
          refine Wp.stepsG 6 (fun cal X P' hk hX hP => ?_)
          show X (4, [some (.ref 76), some (.int f1), some (.int (v2 + 1)), some (.int (v3 + 1)), some (.int 1)], [], st S hs, 0, 0)
          refine hX _ ?_
          exact Wp.weak (leL.k (leL.k (leL.k (leL.k (leL.n leL.z))))) (ih (v2 + 1) (v3 + 1) q hl ct)
      · clear hP hX hk P' X cal
        rw [if_pos hc] at hl
        refine Wp.stepsG 13 (fun cal X P' hk hX hP => ?_)
        show ¬ (S.1 76 1) = 0 ∧ X (52, [some (.ref 76), some (.int f1), some (.int v2), some (.int v3), none], [.int (((v3 + (S.1 76 1)) - 1) - ((v3 + (S.1 76 1)) - 1) / (S.1 76 1) * (S.1 76 1)), .ref 99, .int f1, .ref 76], st S hs, 0, 0)
        obtain ⟨hg, hl⟩ := gd_some hl
        refine ⟨hg, hX _ ?_⟩
        clear hP hX hk P' X cal
        refine Wp.stepsG 1 (fun cal X P' hk hX hP => ?_)
        show vp_in (((v3 + (S.1 76 1)) - 1) - ((v3 + (S.1 76 1)) - 1) / (S.1 76 1) * (S.1 76 1)) 6 ∧ X (53, [some (.ref 76), some (.int f1), some (.int v2), some (.int v3), none], [.int ((S.1 99) (((v3 + (S.1 76 1)) - 1) - ((v3 + (S.1 76 1)) - 1) / (S.1 76 1) * (S.1 76 1)).toNatClampNeg), .int f1, .ref 76], st S hs, 0, 0)
        obtain ⟨hg, hl⟩ := gd_some hl
        refine ⟨hg, hX _ ?_⟩
        clear hP hX hk P' X cal
        refine Wp.stepsG 1 (fun cal X P' hk hX hP => ?_)
        show kcall cal ix_X12_has [.ref 76, .int f1, .int ((S.1 99) (((v3 + (S.1 76 1)) - 1) - ((v3 + (S.1 76 1)) - 1) / (S.1 76 1) * (S.1 76 1)).toNatClampNeg)] (st S hs) [] 0 0 (0, 0) (fun v σ' c' m' => X (56, [some (.ref 76), some (.int f1), some (.int v2), some (.int v3), none], v.toList ++ [], σ', c', m'))
        refine kcall0 rfl (hk _ _ _ _ _ _ (e_X12_has (d + 0) S hs f1 ((S.1 99) (((v3 + (S.1 76 1)) - 1) - ((v3 + (S.1 76 1)) - 1) / (S.1 76 1) * (S.1 76 1)).toNatClampNeg) _ ?_))
        show X (56, [some (.ref 76), some (.int f1), some (.int v2), some (.int v3), none], [.int (r_X12_has f1 ((S.1 99) (((v3 + (S.1 76 1)) - 1) - ((v3 + (S.1 76 1)) - 1) / (S.1 76 1) * (S.1 76 1)).toNatClampNeg))], st S hs, 0, 0)
        refine hX _ ?_
        clear hP hX hk P' X cal
        refine Wp.stepsG 1 (fun cal X P' hk hX hP => ?_)
        show ((r_X12_has f1 ((S.1 99) (((v3 + (S.1 76 1)) - 1) - ((v3 + (S.1 76 1)) - 1) / (S.1 76 1) * (S.1 76 1)).toNatClampNeg)) = 0 → X (63, [some (.ref 76), some (.int f1), some (.int v2), some (.int v3), none], [], st S hs, 0, 0)) ∧ (¬ (r_X12_has f1 ((S.1 99) (((v3 + (S.1 76 1)) - 1) - ((v3 + (S.1 76 1)) - 1) / (S.1 76 1) * (S.1 76 1)).toNatClampNeg)) = 0 → X (59, [some (.ref 76), some (.int f1), some (.int v2), some (.int v3), none], [], st S hs, 0, 0))
        refine ⟨fun hc => hX _ ?_, fun hc => hX _ ?_⟩
        · clear hP hX hk P' X cal
          rw [if_pos hc] at hl
          refine Wp.stepsG 9 (fun cal X P' hk hX hP => ?_)
          show vp_in v3 6 ∧ X (75, [some (.ref 76), some (.int f1), some (.int v2), some (.int v3), some (.int 0)], [.int ((S.1 99) v3.toNatClampNeg), .int f1, .ref 76, .int v2], st S hs, 0, 0)
          obtain ⟨hg, hl⟩ := gd_some hl
          refine ⟨hg, hX _ ?_⟩
          clear hP hX hk P' X cal
          refine Wp.stepsG 1 (fun cal X P' hk hX hP => ?_)
          show kcall cal ix_X12_has [.ref 76, .int f1, .int ((S.1 99) v3.toNatClampNeg)] (st S hs) [.int v2] 0 0 (0, 0) (fun v σ' c' m' => X (78, [some (.ref 76), some (.int f1), some (.int v2), some (.int v3), some (.int 0)], v.toList ++ [.int v2], σ', c', m'))
          refine kcall0 rfl (hk _ _ _ _ _ _ (e_X12_has (d + 0) S hs f1 ((S.1 99) v3.toNatClampNeg) _ ?_))
          show X (78, [some (.ref 76), some (.int f1), some (.int v2), some (.int v3), some (.int 0)], [.int (r_X12_has f1 ((S.1 99) v3.toNatClampNeg)), .int v2], st S hs, 0, 0)
          refine hX _ ?_
          clear hP hX hk P' X cal
          refine Wp.stepsG 1 (fun cal X P' hk hX hP => ?_)
          show (¬ (r_X12_has f1 ((S.1 99) v3.toNatClampNeg)) = 0 → X (90, [some (.ref 76), some (.int f1), some (.int v2), some (.int v3), some (.int 0)], [.int v2], st S hs, 0, 0)) ∧ ((r_X12_has f1 ((S.1 99) v3.toNatClampNeg)) = 0 → X (81, [some (.ref 76), some (.int f1), some (.int v2), some (.int v3), some (.int 0)], [.int v2], st S hs, 0, 0))
          refine ⟨fun hc => hX _ ?_, fun hc => hX _ ?_⟩
          · clear hP hX hk P' X cal
            rw [if_neg hc] at hl
            refine Wp.stepsG 5 (fun cal X P' hk hX hP => ?_)
            show X (4, [some (.ref 76), some (.int f1), some (.int (v2 + 0)), some (.int (v3 + 1)), some (.int 0)], [], st S hs, 0, 0)
            refine hX _ ?_
            exact Wp.weak (leL.k (leL.k (leL.k (leL.k (leL.n leL.z))))) (ih (v2 + 0) (v3 + 1) q hl ct)
          · clear hP hX hk P' X cal
            rw [if_pos hc] at hl
            refine Wp.stepsG 2 (fun cal X P' hk hX hP => ?_)
            show ((0 : Int32) = 0 → X (90, [some (.ref 76), some (.int f1), some (.int v2), some (.int v3), some (.int 0)], [.int v2], st S hs, 0, 0)) ∧ (¬ (0 : Int32) = 0 → X (86, [some (.ref 76), some (.int f1), some (.int v2), some (.int v3), some (.int 0)], [.int v2], st S hs, 0, 0))
            refine ⟨fun _ => hX _ ?_, fun hc => absurd hc (by decide)⟩
            clear hP hX hk P' X cal
            refine Wp.stepsG 5 (fun cal X P' hk hX hP => ?_)
            show X (4, [some (.ref 76), some (.int f1), some (.int (v2 + 0)), some (.int (v3 + 1)), some (.int 0)], [], st S hs, 0, 0)
            refine hX _ ?_
            exact Wp.weak (leL.k (leL.k (leL.k (leL.k (leL.n leL.z))))) (ih (v2 + 0) (v3 + 1) q hl ct)
        · clear hP hX hk P' X cal
          rw [if_neg hc] at hl
          refine Wp.stepsG 10 (fun cal X P' hk hX hP => ?_)
          show vp_in v3 6 ∧ X (75, [some (.ref 76), some (.int f1), some (.int v2), some (.int v3), some (.int 1)], [.int ((S.1 99) v3.toNatClampNeg), .int f1, .ref 76, .int v2], st S hs, 0, 0)
          obtain ⟨hg, hl⟩ := gd_some hl
          refine ⟨hg, hX _ ?_⟩
          clear hP hX hk P' X cal
          refine Wp.stepsG 1 (fun cal X P' hk hX hP => ?_)
          show kcall cal ix_X12_has [.ref 76, .int f1, .int ((S.1 99) v3.toNatClampNeg)] (st S hs) [.int v2] 0 0 (0, 0) (fun v σ' c' m' => X (78, [some (.ref 76), some (.int f1), some (.int v2), some (.int v3), some (.int 1)], v.toList ++ [.int v2], σ', c', m'))
          refine kcall0 rfl (hk _ _ _ _ _ _ (e_X12_has (d + 0) S hs f1 ((S.1 99) v3.toNatClampNeg) _ ?_))
          show X (78, [some (.ref 76), some (.int f1), some (.int v2), some (.int v3), some (.int 1)], [.int (r_X12_has f1 ((S.1 99) v3.toNatClampNeg)), .int v2], st S hs, 0, 0)
          refine hX _ ?_
          clear hP hX hk P' X cal
          refine Wp.stepsG 1 (fun cal X P' hk hX hP => ?_)
          show (¬ (r_X12_has f1 ((S.1 99) v3.toNatClampNeg)) = 0 → X (90, [some (.ref 76), some (.int f1), some (.int v2), some (.int v3), some (.int 1)], [.int v2], st S hs, 0, 0)) ∧ ((r_X12_has f1 ((S.1 99) v3.toNatClampNeg)) = 0 → X (81, [some (.ref 76), some (.int f1), some (.int v2), some (.int v3), some (.int 1)], [.int v2], st S hs, 0, 0))
          refine ⟨fun hc => hX _ ?_, fun hc => hX _ ?_⟩
          · clear hP hX hk P' X cal
            rw [if_neg hc] at hl
            refine Wp.stepsG 5 (fun cal X P' hk hX hP => ?_)
            show X (4, [some (.ref 76), some (.int f1), some (.int (v2 + 0)), some (.int (v3 + 1)), some (.int 1)], [], st S hs, 0, 0)
            refine hX _ ?_
            exact Wp.weak (leL.k (leL.k (leL.k (leL.k (leL.n leL.z))))) (ih (v2 + 0) (v3 + 1) q hl ct)
          · clear hP hX hk P' X cal
            rw [if_pos hc] at hl
            refine Wp.stepsG 2 (fun cal X P' hk hX hP => ?_)
            show ((1 : Int32) = 0 → X (90, [some (.ref 76), some (.int f1), some (.int v2), some (.int v3), some (.int 1)], [.int v2], st S hs, 0, 0)) ∧ (¬ (1 : Int32) = 0 → X (86, [some (.ref 76), some (.int f1), some (.int v2), some (.int v3), some (.int 1)], [.int v2], st S hs, 0, 0))
            refine ⟨fun hc => absurd hc (by decide), fun _ => hX _ ?_⟩
            clear hP hX hk P' X cal
            refine Wp.stepsG 6 (fun cal X P' hk hX hP => ?_)
            show X (4, [some (.ref 76), some (.int f1), some (.int (v2 + 1)), some (.int (v3 + 1)), some (.int 1)], [], st S hs, 0, 0)
            refine hX _ ?_
            exact Wp.weak (leL.k (leL.k (leL.k (leL.k (leL.n leL.z))))) (ih (v2 + 1) (v3 + 1) q hl ct)
def r_X12_seated (S : St) (a1 : Int32) : Option Int32 :=
  (lp_X12_seated_4 S a1 4000 0 0).bind fun q1 =>
    some q1
set_option maxRecDepth 20000 in
set_option maxHeartbeats 4000000 in
theorem e_X12_seated (d : Nat) (S : St) (hs : List Hr) (a1 : Int32) (v : Int32) (hr : r_X12_seated S a1 = some v) (P : Option Value → Hp → Prop) (h : P (some (.int v)) (st S hs)) : Ev (d + 2) ix_X12_seated 0 0 [.ref 76, .int a1] (st S hs) P := by
  refine Ev.intro (M := mi_X12_seated) rfl (Nat.le_of_ble_eq_true rfl) ?_
  unfold r_X12_seated at hr
  refine Wp.stepsG 4 (fun cal X P' hk hX hP => ?_)
  show X (4, [some (.ref 76), some (.int a1), some (.int 0), some (.int 0), none], [], st S hs, 0, 0)
  refine hX _ ?_
  clear hP hX hk P' X cal
  obtain ⟨q1, hq1, hr⟩ := bd_some hr
  refine (e_lp_X12_seated_4 d hs P S a1 _ 0 0 q1 hq1 ?_)
  have hr := Option.some.inj hr
  subst hr
  refine Wp.stepsG 2 (fun cal X P' hk hX hP => ?_)
  exact hP _ _ h
def lp_X12_seats_91 (f2 : Int32) (f3 : Int32) (f4 : Int32) (f5 : Int32) : Nat → Int32 → St → Option (St)
  | 0, _, _ => none
  | n + 1, v7, S =>
    if 6 ≤ v7 then
      some S
    else
      gd (¬ (v7 < 0 ∨ 6 ≤ v7.toNatClampNeg)) (
        gd (¬ (v7 < 0 ∨ 6 ≤ v7.toNatClampNeg)) (
          lp_X12_seats_91 f2 f3 f4 f5 n (v7 + 1) (sA S 100 (upd (S.1 100) v7.toNatClampNeg ((S.1 99) v7.toNatClampNeg)))))
set_option maxRecDepth 20000 in
set_option maxHeartbeats 4000000 in
theorem e_lp_X12_seats_91 (d : Nat) (hs : List Hr) (P : Option Value → Hp → Prop) (f2 : Int32) (f3 : Int32) (f4 : Int32) (f5 : Int32) : ∀ (n : Nat) (v7 : Int32) (S : St) (q : St), lp_X12_seats_91 f2 f3 f4 f5 n v7 S = some q → (WM mi_X12_seats (d + 5) P 118 [some (.ref 76), none, some (.int f2), some (.int f3), some (.int f4), some (.int f5), none, none] [] (st q hs)) → WM mi_X12_seats (d + 5) P 91 [some (.ref 76), none, some (.int f2), some (.int f3), some (.int f4), some (.int f5), none, some (.int v7)] [] (st S hs) := by
  intro n
  induction n with
  | zero =>
    intro v7 S q hl
    cases hl
  | succ n ih =>
    intro v7 S q hl ct
    rw [lp_X12_seats_91] at hl
    refine Wp.stepsG 3 (fun cal X P' hk hX hP => ?_)
    show (6 ≤ v7 → X (118, [some (.ref 76), none, some (.int f2), some (.int f3), some (.int f4), some (.int f5), none, some (.int v7)], [], st S hs, 0, 0)) ∧ (¬ 6 ≤ v7 → X (98, [some (.ref 76), none, some (.int f2), some (.int f3), some (.int f4), some (.int f5), none, some (.int v7)], [], st S hs, 0, 0))
    refine ⟨fun hc => hX _ ?_, fun hc => hX _ ?_⟩
    · clear hP hX hk P' X cal
      rw [if_pos hc] at hl
      have hl := Option.some.inj hl
      subst hl
      exact Wp.weak (leL.k (leL.k (leL.k (leL.k (leL.k (leL.k (leL.k (leL.n leL.z)))))))) (ct)
    · clear hP hX hk P' X cal
      rw [if_neg hc] at hl
      refine Wp.stepsG 7 (fun cal X P' hk hX hP => ?_)
      show vp_in v7 6 ∧ X (111, [some (.ref 76), none, some (.int f2), some (.int f3), some (.int f4), some (.int f5), none, some (.int v7)], [.int ((S.1 99) v7.toNatClampNeg), .int v7, .ref 100], st S hs, 0, 0)
      obtain ⟨hg, hl⟩ := gd_some hl
      refine ⟨hg, hX _ ?_⟩
      clear hP hX hk P' X cal
      refine Wp.stepsG 1 (fun cal X P' hk hX hP => ?_)
      show vp_in v7 6 ∧ X (112, [some (.ref 76), none, some (.int f2), some (.int f3), some (.int f4), some (.int f5), none, some (.int v7)], [], st (sA S 100 (upd (S.1 100) v7.toNatClampNeg ((S.1 99) v7.toNatClampNeg))) hs, 0, 0)
      obtain ⟨hg, hl⟩ := gd_some hl
      refine ⟨hg, hX _ ?_⟩
      clear hP hX hk P' X cal
      refine Wp.stepsG 2 (fun cal X P' hk hX hP => ?_)
      show X (91, [some (.ref 76), none, some (.int f2), some (.int f3), some (.int f4), some (.int f5), none, some (.int (v7 + 1))], [], st (sA S 100 (upd (S.1 100) v7.toNatClampNeg ((S.1 99) v7.toNatClampNeg))) hs, 0, 0)
      refine hX _ ?_
      exact (ih (v7 + 1) (sA S 100 (upd (S.1 100) v7.toNatClampNeg ((S.1 99) v7.toNatClampNeg))) q hl ct)
def lp_X12_seats_51 (f2 : Int32) (f3 : Int32) : Nat → Int32 → Int32 → St → Option (Int32 × St)
  | 0, _, _, _ => none
  | n + 1, v4, v5, S =>
    if (S.1 76 1) ≤ 0 then
      some (v4, S)
    else
      (r_X12_layOrder S v5).bind fun q2 =>
      if q2.1 = 0 then
        some (v4, q2.2)
      else
        (r_X12_seated q2.2 f3).bind fun q3 =>
        if v4 < q3 then
          (lp_X12_seats_91 f2 f3 q3 v5 4000 0 q2.2).bind fun q4 =>
            lp_X12_seats_51 f2 f3 n q3 (v5 + 1) q4
        else
          lp_X12_seats_51 f2 f3 n v4 (v5 + 1) q2.2
set_option maxRecDepth 20000 in
set_option maxHeartbeats 4000000 in
theorem e_lp_X12_seats_51 (d : Nat) (hs : List Hr) (P : Option Value → Hp → Prop) (f2 : Int32) (f3 : Int32) : ∀ (n : Nat) (v4 : Int32) (v5 : Int32) (S : St) (q : Int32 × St), lp_X12_seats_51 f2 f3 n v4 v5 S = some q → (WM mi_X12_seats (d + 5) P 124 [some (.ref 76), none, some (.int f2), some (.int f3), some (.int q.1), none, none, none] [] (st q.2 hs)) → WM mi_X12_seats (d + 5) P 51 [some (.ref 76), none, some (.int f2), some (.int f3), some (.int v4), some (.int v5), none, none] [] (st S hs) := by
  intro n
  induction n with
  | zero =>
    intro v4 v5 S q hl
    cases hl
  | succ n ih =>
    intro v4 v5 S q hl ct
    rw [lp_X12_seats_51] at hl
    refine Wp.stepsG 3 (fun cal X P' hk hX hP => ?_)
    show ((S.1 76 1) ≤ 0 → X (124, [some (.ref 76), none, some (.int f2), some (.int f3), some (.int v4), some (.int v5), none, none], [], st S hs, 0, 0)) ∧ (¬ (S.1 76 1) ≤ 0 → X (58, [some (.ref 76), none, some (.int f2), some (.int f3), some (.int v4), some (.int v5), none, none], [], st S hs, 0, 0))
    refine ⟨fun hc => hX _ ?_, fun hc => hX _ ?_⟩
    · clear hP hX hk P' X cal
      rw [if_pos hc] at hl
      have hl := Option.some.inj hl
      subst hl
      exact Wp.weak (leL.k (leL.k (leL.k (leL.k (leL.k (leL.n (leL.k (leL.k leL.z)))))))) (ct)
    · clear hP hX hk P' X cal
      rw [if_neg hc] at hl
      refine Wp.stepsG 3 (fun cal X P' hk hX hP => ?_)
      show kcall cal ix_X12_layOrder [.ref 76, .int v5] (st S hs) [] 0 0 (0, 0) (fun v σ' c' m' => X (64, [some (.ref 76), none, some (.int f2), some (.int f3), some (.int v4), some (.int v5), none, none], v.toList ++ [], σ', c', m'))
      obtain ⟨q2, hq2, hl⟩ := bd_some hl
      refine kcall0 rfl (hk _ _ _ _ _ _ (e_X12_layOrder (d + 3) S hs v5 q2 hq2 _ ?_))
      show X (64, [some (.ref 76), none, some (.int f2), some (.int f3), some (.int v4), some (.int v5), none, none], [.int q2.1], st q2.2 hs, 0, 0)
      refine hX _ ?_
      clear hP hX hk P' X cal
      refine Wp.stepsG 1 (fun cal X P' hk hX hP => ?_)
      show (q2.1 = 0 → X (124, [some (.ref 76), none, some (.int f2), some (.int f3), some (.int v4), some (.int v5), none, none], [], st q2.2 hs, 0, 0)) ∧ (¬ q2.1 = 0 → X (67, [some (.ref 76), none, some (.int f2), some (.int f3), some (.int v4), some (.int v5), none, none], [], st q2.2 hs, 0, 0))
      refine ⟨fun hc => hX _ ?_, fun hc => hX _ ?_⟩
      · clear hP hX hk P' X cal
        rw [if_pos hc] at hl
        have hl := Option.some.inj hl
        subst hl
        exact Wp.weak (leL.k (leL.k (leL.k (leL.k (leL.k (leL.n (leL.k (leL.k leL.z)))))))) (ct)
      · clear hP hX hk P' X cal
        rw [if_neg hc] at hl
        refine Wp.stepsG 3 (fun cal X P' hk hX hP => ?_)
        show kcall cal ix_X12_seated [.ref 76, .int f3] (st q2.2 hs) [] 0 0 (0, 0) (fun v σ' c' m' => X (72, [some (.ref 76), none, some (.int f2), some (.int f3), some (.int v4), some (.int v5), none, none], v.toList ++ [], σ', c', m'))
        obtain ⟨q3, hq3, hl⟩ := bd_some hl
        refine kcall0 rfl (hk _ _ _ _ _ _ (e_X12_seated (d + 3) q2.2 hs f3 q3 hq3 _ ?_))
        show X (72, [some (.ref 76), none, some (.int f2), some (.int f3), some (.int v4), some (.int v5), none, none], [.int q3], st q2.2 hs, 0, 0)
        refine hX _ ?_
        clear hP hX hk P' X cal
        refine Wp.stepsG 4 (fun cal X P' hk hX hP => ?_)
        show (v4 < q3 → X (84, [some (.ref 76), none, some (.int f2), some (.int f3), some (.int v4), some (.int v5), some (.int q3), none], [], st q2.2 hs, 0, 0)) ∧ (¬ v4 < q3 → X (81, [some (.ref 76), none, some (.int f2), some (.int f3), some (.int v4), some (.int v5), some (.int q3), none], [], st q2.2 hs, 0, 0))
        refine ⟨fun hc => hX _ ?_, fun hc => hX _ ?_⟩
        · clear hP hX hk P' X cal
          rw [if_pos hc] at hl
          refine Wp.stepsG 4 (fun cal X P' hk hX hP => ?_)
          show X (91, [some (.ref 76), none, some (.int f2), some (.int f3), some (.int q3), some (.int v5), some (.int q3), some (.int 0)], [], st q2.2 hs, 0, 0)
          refine hX _ ?_
          clear hP hX hk P' X cal
          obtain ⟨q4, hq4, hl⟩ := bd_some hl
          refine Wp.weak (leL.k (leL.k (leL.k (leL.k (leL.k (leL.k (leL.n (leL.k leL.z)))))))) (e_lp_X12_seats_91 d hs P f2 f3 q3 v5 _ 0 q2.2 q4 hq4 ?_)
          refine Wp.stepsG 2 (fun cal X P' hk hX hP => ?_)
          show X (51, [some (.ref 76), none, some (.int f2), some (.int f3), some (.int q3), some (.int (v5 + 1)), none, none], [], st q4 hs, 0, 0)
          refine hX _ ?_
          exact (ih q3 (v5 + 1) q4 q hl ct)
        · clear hP hX hk P' X cal
          rw [if_neg hc] at hl
          refine Wp.stepsG 3 (fun cal X P' hk hX hP => ?_)
          show X (51, [some (.ref 76), none, some (.int f2), some (.int f3), some (.int v4), some (.int (v5 + 1)), some (.int q3), none], [], st q2.2 hs, 0, 0)
          refine hX _ ?_
          exact Wp.weak (leL.k (leL.k (leL.k (leL.k (leL.k (leL.k (leL.n (leL.k leL.z)))))))) (ih v4 (v5 + 1) q2.2 q hl ct)
def r_X12_seats (S : St) (a1 : Int32) (a2 : Int32) : Option (Int32 × St) :=
  if (r_X12_isStory S a1) = 0 then
    some ((-1), S)
  else
    if (r_X12_in a2 (-1) 5) = 0 then
      some ((-1), S)
    else
      (r_X12_knowing S a1 (((1 : Int32) <<< ((S.1 76 1) &&& 31)) - 1)).bind fun q1 =>
      if (S.1 76 1) = 0 then
        (lp_X12_seats_51 a2 q1 4000 0 0 S).bind fun q6 =>
          if 0 ≤ a2 then
            if (q6.2.1 76 1) ≤ a2 then
              some ((-5), q6.2)
            else
              gd (¬ (a2 < 0 ∨ 6 ≤ a2.toNatClampNeg)) (
                some ((q6.2.1 100) a2.toNatClampNeg, q6.2))
          else
            some (q6.1, q6.2)
      else
        (lp_X12_seats_51 a2 q1 4000 (-1) 0 S).bind fun q5 =>
          if 0 ≤ a2 then
            if (q5.2.1 76 1) ≤ a2 then
              some ((-5), q5.2)
            else
              gd (¬ (a2 < 0 ∨ 6 ≤ a2.toNatClampNeg)) (
                some ((q5.2.1 100) a2.toNatClampNeg, q5.2))
          else
            some (q5.1, q5.2)
set_option maxRecDepth 20000 in
set_option maxHeartbeats 4000000 in
theorem e_X12_seats (d : Nat) (S : St) (hs : List Hr) (a1 : Int32) (a2 : Int32) (v : Int32 × St) (hr : r_X12_seats S a1 a2 = some v) (P : Option Value → Hp → Prop) (h : P (some (.int v.1)) (st v.2 hs)) : Ev (d + 6) ix_X12_seats 0 0 [.ref 76, .int a1, .int a2] (st S hs) P := by
  refine Ev.intro (M := mi_X12_seats) rfl (Nat.le_of_ble_eq_true rfl) ?_
  unfold r_X12_seats at hr
  refine Wp.stepsG 3 (fun cal X P' hk hX hP => ?_)
  show kcall cal ix_X12_isStory [.ref 76, .int a1] (st S hs) [] 0 0 (0, 0) (fun v σ' c' m' => X (5, [some (.ref 76), some (.int a1), some (.int a2), none, none, none, none, none], v.toList ++ [], σ', c', m'))
  refine kcall0 rfl (hk _ _ _ _ _ _ (e_X12_isStory (d + 3) S hs a1 _ ?_))
  show X (5, [some (.ref 76), some (.int a1), some (.int a2), none, none, none, none, none], [.int (r_X12_isStory S a1)], st S hs, 0, 0)
  refine hX _ ?_
  clear hP hX hk P' X cal
  refine Wp.stepsG 1 (fun cal X P' hk hX hP => ?_)
  show ((r_X12_isStory S a1) = 0 → X (18, [some (.ref 76), some (.int a1), some (.int a2), none, none, none, none, none], [], st S hs, 0, 0)) ∧ (¬ (r_X12_isStory S a1) = 0 → X (8, [some (.ref 76), some (.int a1), some (.int a2), none, none, none, none, none], [], st S hs, 0, 0))
  refine ⟨fun hc => hX _ ?_, fun hc => hX _ ?_⟩
  · clear hP hX hk P' X cal
    rw [if_pos hc] at hr
    have hr := Option.some.inj hr
    subst hr
    refine Wp.stepsG 2 (fun cal X P' hk hX hP => ?_)
    exact hP _ _ h
  · clear hP hX hk P' X cal
    rw [if_neg hc] at hr
    refine Wp.stepsG 5 (fun cal X P' hk hX hP => ?_)
    show kcall cal ix_X12_in [.ref 76, .int a2, .int (-1), .int 5] (st S hs) [] 0 0 (0, 0) (fun v σ' c' m' => X (15, [some (.ref 76), some (.int a1), some (.int a2), none, none, none, none, none], v.toList ++ [], σ', c', m'))
    refine kcall0 rfl (hk _ _ _ _ _ _ (e_X12_in (d + 4) S hs a2 (-1) 5 _ ?_))
    show X (15, [some (.ref 76), some (.int a1), some (.int a2), none, none, none, none, none], [.int (r_X12_in a2 (-1) 5)], st S hs, 0, 0)
    refine hX _ ?_
    clear hP hX hk P' X cal
    refine Wp.stepsG 1 (fun cal X P' hk hX hP => ?_)
    show (¬ (r_X12_in a2 (-1) 5) = 0 → X (20, [some (.ref 76), some (.int a1), some (.int a2), none, none, none, none, none], [], st S hs, 0, 0)) ∧ ((r_X12_in a2 (-1) 5) = 0 → X (18, [some (.ref 76), some (.int a1), some (.int a2), none, none, none, none, none], [], st S hs, 0, 0))
    refine ⟨fun hc => hX _ ?_, fun hc => hX _ ?_⟩
    · clear hP hX hk P' X cal
      rw [if_neg hc] at hr
      refine Wp.stepsG 9 (fun cal X P' hk hX hP => ?_)
      show kcall cal ix_X12_knowing [.ref 76, .int a1, .int (((1 : Int32) <<< ((S.1 76 1) &&& 31)) - 1)] (st S hs) [] 0 0 (0, 0) (fun v σ' c' m' => X (33, [some (.ref 76), some (.int a1), some (.int a2), none, none, none, none, none], v.toList ++ [], σ', c', m'))
      obtain ⟨q1, hq1, hr⟩ := bd_some hr
      refine kcall0 rfl (hk _ _ _ _ _ _ (e_X12_knowing (d + 0) S hs a1 (((1 : Int32) <<< ((S.1 76 1) &&& 31)) - 1) q1 hq1 _ ?_))
      show X (33, [some (.ref 76), some (.int a1), some (.int a2), none, none, none, none, none], [.int q1], st S hs, 0, 0)
      refine hX _ ?_
      clear hP hX hk P' X cal
      refine Wp.stepsG 4 (fun cal X P' hk hX hP => ?_)
      show (¬ (S.1 76 1) = 0 → X (45, [some (.ref 76), some (.int a1), some (.int a2), some (.int q1), none, none, none, none], [], st S hs, 0, 0)) ∧ ((S.1 76 1) = 0 → X (41, [some (.ref 76), some (.int a1), some (.int a2), some (.int q1), none, none, none, none], [], st S hs, 0, 0))
      refine ⟨fun hc => hX _ ?_, fun hc => hX _ ?_⟩
      · clear hP hX hk P' X cal
        rw [if_neg hc] at hr
        refine Wp.stepsG 4 (fun cal X P' hk hX hP => ?_)
        show X (51, [some (.ref 76), some (.int a1), some (.int a2), some (.int q1), some (.int (-1)), some (.int 0), none, none], [], st S hs, 0, 0)
        refine hX _ ?_
        clear hP hX hk P' X cal
        obtain ⟨q5, hq5, hr⟩ := bd_some hr
        refine Wp.weak (leL.k (leL.n (leL.k (leL.k (leL.k (leL.k (leL.k (leL.k leL.z)))))))) (e_lp_X12_seats_51 d hs P a2 q1 _ (-1) 0 S q5 hq5 ?_)
        refine Wp.stepsG 2 (fun cal X P' hk hX hP => ?_)
        show (0 ≤ a2 → X (133, [some (.ref 76), none, some (.int a2), some (.int q1), some (.int q5.1), none, none, none], [], st q5.2 hs, 0, 0)) ∧ (¬ 0 ≤ a2 → X (128, [some (.ref 76), none, some (.int a2), some (.int q1), some (.int q5.1), none, none, none], [], st q5.2 hs, 0, 0))
        refine ⟨fun hc => hX _ ?_, fun hc => hX _ ?_⟩
        · clear hP hX hk P' X cal
          rw [if_pos hc] at hr
          refine Wp.stepsG 4 (fun cal X P' hk hX hP => ?_)
          show ((q5.2.1 76 1) ≤ a2 → X (150, [some (.ref 76), none, some (.int a2), some (.int q1), some (.int q5.1), none, none, none], [], st q5.2 hs, 0, 0)) ∧ (¬ (q5.2.1 76 1) ≤ a2 → X (141, [some (.ref 76), none, some (.int a2), some (.int q1), some (.int q5.1), none, none, none], [], st q5.2 hs, 0, 0))
          refine ⟨fun hc => hX _ ?_, fun hc => hX _ ?_⟩
          · clear hP hX hk P' X cal
            rw [if_pos hc] at hr
            have hr := Option.some.inj hr
            subst hr
            refine Wp.stepsG 2 (fun cal X P' hk hX hP => ?_)
            exact hP _ _ h
          · clear hP hX hk P' X cal
            rw [if_neg hc] at hr
            refine Wp.stepsG 4 (fun cal X P' hk hX hP => ?_)
            show vp_in a2 6 ∧ X (147, [some (.ref 76), none, some (.int a2), some (.int q1), some (.int q5.1), none, none, none], [.int ((q5.2.1 100) a2.toNatClampNeg)], st q5.2 hs, 0, 0)
            obtain ⟨hg, hr⟩ := gd_some hr
            refine ⟨hg, hX _ ?_⟩
            clear hP hX hk P' X cal
            have hr := Option.some.inj hr
            subst hr
            refine Wp.stepsG 2 (fun cal X P' hk hX hP => ?_)
            exact hP _ _ h
        · clear hP hX hk P' X cal
          rw [if_neg hc] at hr
          have hr := Option.some.inj hr
          subst hr
          refine Wp.stepsG 3 (fun cal X P' hk hX hP => ?_)
          exact hP _ _ h
      · clear hP hX hk P' X cal
        rw [if_pos hc] at hr
        refine Wp.stepsG 5 (fun cal X P' hk hX hP => ?_)
        show X (51, [some (.ref 76), some (.int a1), some (.int a2), some (.int q1), some (.int 0), some (.int 0), none, none], [], st S hs, 0, 0)
        refine hX _ ?_
        clear hP hX hk P' X cal
        obtain ⟨q6, hq6, hr⟩ := bd_some hr
        refine Wp.weak (leL.k (leL.n (leL.k (leL.k (leL.k (leL.k (leL.k (leL.k leL.z)))))))) (e_lp_X12_seats_51 d hs P a2 q1 _ 0 0 S q6 hq6 ?_)
        refine Wp.stepsG 2 (fun cal X P' hk hX hP => ?_)
        show (0 ≤ a2 → X (133, [some (.ref 76), none, some (.int a2), some (.int q1), some (.int q6.1), none, none, none], [], st q6.2 hs, 0, 0)) ∧ (¬ 0 ≤ a2 → X (128, [some (.ref 76), none, some (.int a2), some (.int q1), some (.int q6.1), none, none, none], [], st q6.2 hs, 0, 0))
        refine ⟨fun hc => hX _ ?_, fun hc => hX _ ?_⟩
        · clear hP hX hk P' X cal
          rw [if_pos hc] at hr
          refine Wp.stepsG 4 (fun cal X P' hk hX hP => ?_)
          show ((q6.2.1 76 1) ≤ a2 → X (150, [some (.ref 76), none, some (.int a2), some (.int q1), some (.int q6.1), none, none, none], [], st q6.2 hs, 0, 0)) ∧ (¬ (q6.2.1 76 1) ≤ a2 → X (141, [some (.ref 76), none, some (.int a2), some (.int q1), some (.int q6.1), none, none, none], [], st q6.2 hs, 0, 0))
          refine ⟨fun hc => hX _ ?_, fun hc => hX _ ?_⟩
          · clear hP hX hk P' X cal
            rw [if_pos hc] at hr
            have hr := Option.some.inj hr
            subst hr
            refine Wp.stepsG 2 (fun cal X P' hk hX hP => ?_)
            exact hP _ _ h
          · clear hP hX hk P' X cal
            rw [if_neg hc] at hr
            refine Wp.stepsG 4 (fun cal X P' hk hX hP => ?_)
            show vp_in a2 6 ∧ X (147, [some (.ref 76), none, some (.int a2), some (.int q1), some (.int q6.1), none, none, none], [.int ((q6.2.1 100) a2.toNatClampNeg)], st q6.2 hs, 0, 0)
            obtain ⟨hg, hr⟩ := gd_some hr
            refine ⟨hg, hX _ ?_⟩
            clear hP hX hk P' X cal
            have hr := Option.some.inj hr
            subst hr
            refine Wp.stepsG 2 (fun cal X P' hk hX hP => ?_)
            exact hP _ _ h
        · clear hP hX hk P' X cal
          rw [if_neg hc] at hr
          have hr := Option.some.inj hr
          subst hr
          refine Wp.stepsG 3 (fun cal X P' hk hX hP => ?_)
          exact hP _ _ h
    · clear hP hX hk P' X cal
      rw [if_pos hc] at hr
      have hr := Option.some.inj hr
      subst hr
      refine Wp.stepsG 2 (fun cal X P' hk hX hP => ?_)
      exact hP _ _ h
def lp_X12_spared_41 (f1 : Int32) (f2 : Int32) : Nat → Int32 → St → Option (St)
  | 0, _, _ => none
  | n + 1, v3, S =>
    if (S.1 76 0) ≤ v3 then
      some S
    else
      (r_X12_laughOf S f1 v3).bind fun q1 =>
      gd (¬ (v3 < 0 ∨ 8 ≤ v3.toNatClampNeg)) (
        lp_X12_spared_41 f1 f2 n (v3 + 1) (sA q1.2 94 (upd (q1.2.1 94) v3.toNatClampNeg q1.1)))
set_option maxRecDepth 20000 in
set_option maxHeartbeats 4000000 in
theorem e_lp_X12_spared_41 (d : Nat) (hs : List Hr) (P : Option Value → Hp → Prop) (f1 : Int32) (f2 : Int32) : ∀ (n : Nat) (v3 : Int32) (S : St) (q : St), lp_X12_spared_41 f1 f2 n v3 S = some q → (WM mi_X12_spared (d + 5) P 67 [some (.ref 76), some (.int f1), some (.int f2), none, none, none, none, none] [] (st q hs)) → WM mi_X12_spared (d + 5) P 41 [some (.ref 76), some (.int f1), some (.int f2), some (.int v3), none, none, none, none] [] (st S hs) := by
  intro n
  induction n with
  | zero =>
    intro v3 S q hl
    cases hl
  | succ n ih =>
    intro v3 S q hl ct
    rw [lp_X12_spared_41] at hl
    refine Wp.stepsG 4 (fun cal X P' hk hX hP => ?_)
    show ((S.1 76 0) ≤ v3 → X (67, [some (.ref 76), some (.int f1), some (.int f2), some (.int v3), none, none, none, none], [], st S hs, 0, 0)) ∧ (¬ (S.1 76 0) ≤ v3 → X (49, [some (.ref 76), some (.int f1), some (.int f2), some (.int v3), none, none, none, none], [], st S hs, 0, 0))
    refine ⟨fun hc => hX _ ?_, fun hc => hX _ ?_⟩
    · clear hP hX hk P' X cal
      rw [if_pos hc] at hl
      have hl := Option.some.inj hl
      subst hl
      exact Wp.weak (leL.k (leL.k (leL.k (leL.n (leL.k (leL.k (leL.k (leL.k leL.z)))))))) (ct)
    · clear hP hX hk P' X cal
      rw [if_neg hc] at hl
      refine Wp.stepsG 7 (fun cal X P' hk hX hP => ?_)
      show kcall cal ix_X12_laughOf [.ref 76, .int f1, .int v3] (st S hs) [.int v3, .ref 94] 0 0 (0, 0) (fun v σ' c' m' => X (60, [some (.ref 76), some (.int f1), some (.int f2), some (.int v3), none, none, none, none], v.toList ++ [.int v3, .ref 94], σ', c', m'))
      obtain ⟨q1, hq1, hl⟩ := bd_some hl
      refine kcall0 rfl (hk _ _ _ _ _ _ (e_X12_laughOf (d + 0) S hs f1 v3 q1 hq1 _ ?_))
      show X (60, [some (.ref 76), some (.int f1), some (.int f2), some (.int v3), none, none, none, none], [.int q1.1, .int v3, .ref 94], st q1.2 hs, 0, 0)
      refine hX _ ?_
      clear hP hX hk P' X cal
      refine Wp.stepsG 1 (fun cal X P' hk hX hP => ?_)
      show vp_in v3 8 ∧ X (61, [some (.ref 76), some (.int f1), some (.int f2), some (.int v3), none, none, none, none], [], st (sA q1.2 94 (upd (q1.2.1 94) v3.toNatClampNeg q1.1)) hs, 0, 0)
      obtain ⟨hg, hl⟩ := gd_some hl
      refine ⟨hg, hX _ ?_⟩
      clear hP hX hk P' X cal
      refine Wp.stepsG 2 (fun cal X P' hk hX hP => ?_)
      show X (41, [some (.ref 76), some (.int f1), some (.int f2), some (.int (v3 + 1)), none, none, none, none], [], st (sA q1.2 94 (upd (q1.2.1 94) v3.toNatClampNeg q1.1)) hs, 0, 0)
      refine hX _ ?_
      exact (ih (v3 + 1) (sA q1.2 94 (upd (q1.2.1 94) v3.toNatClampNeg q1.1)) q hl ct)
def lp_X12_spared_105 (S : St) (f2 : Int32) (f3 : Int32) (f4 : Int32) (f5 : Int32) : Nat → Int32 → Int32 → Option (Int32)
  | 0, _, _ => none
  | n + 1, v6, v7 =>
    if (S.1 76 0) ≤ v7 then
      some v6
    else
      if (r_X12_has f5 v7) = 0 then
        lp_X12_spared_105 S f2 f3 f4 f5 n (v6 + 0) (v7 + 1)
      else
        gd (¬ (v7 < 0 ∨ 8 ≤ v7.toNatClampNeg)) (
          lp_X12_spared_105 S f2 f3 f4 f5 n (v6 + ((S.1 94) v7.toNatClampNeg)) (v7 + 1))
set_option maxRecDepth 20000 in
set_option maxHeartbeats 4000000 in
theorem e_lp_X12_spared_105 (d : Nat) (hs : List Hr) (P : Option Value → Hp → Prop) (S : St) (f2 : Int32) (f3 : Int32) (f4 : Int32) (f5 : Int32) : ∀ (n : Nat) (v6 : Int32) (v7 : Int32) (q : Int32), lp_X12_spared_105 S f2 f3 f4 f5 n v6 v7 = some q → (WM mi_X12_spared (d + 5) P 147 [some (.ref 76), none, some (.int f2), some (.int f3), some (.int f4), some (.int f5), some (.int q), none] [] (st S hs)) → WM mi_X12_spared (d + 5) P 105 [some (.ref 76), none, some (.int f2), some (.int f3), some (.int f4), some (.int f5), some (.int v6), some (.int v7)] [] (st S hs) := by
  intro n
  induction n with
  | zero =>
    intro v6 v7 q hl
    cases hl
  | succ n ih =>
    intro v6 v7 q hl ct
    rw [lp_X12_spared_105] at hl
    refine Wp.stepsG 4 (fun cal X P' hk hX hP => ?_)
    show ((S.1 76 0) ≤ v7 → X (147, [some (.ref 76), none, some (.int f2), some (.int f3), some (.int f4), some (.int f5), some (.int v6), some (.int v7)], [], st S hs, 0, 0)) ∧ (¬ (S.1 76 0) ≤ v7 → X (114, [some (.ref 76), none, some (.int f2), some (.int f3), some (.int f4), some (.int f5), some (.int v6), some (.int v7)], [], st S hs, 0, 0))
    refine ⟨fun hc => hX _ ?_, fun hc => hX _ ?_⟩
    · clear hP hX hk P' X cal
      rw [if_pos hc] at hl
      have hl := Option.some.inj hl
      subst hl
      exact Wp.weak (leL.k (leL.k (leL.k (leL.k (leL.k (leL.k (leL.k (leL.n leL.z)))))))) (ct)
    · clear hP hX hk P' X cal
      rw [if_neg hc] at hl
      refine Wp.stepsG 5 (fun cal X P' hk hX hP => ?_)
      show kcall cal ix_X12_has [.ref 76, .int f5, .int v7] (st S hs) [.int v6] 0 0 (0, 0) (fun v σ' c' m' => X (124, [some (.ref 76), none, some (.int f2), some (.int f3), some (.int f4), some (.int f5), some (.int v6), some (.int v7)], v.toList ++ [.int v6], σ', c', m'))
      refine kcall0 rfl (hk _ _ _ _ _ _ (e_X12_has (d + 4) S hs f5 v7 _ ?_))
      show X (124, [some (.ref 76), none, some (.int f2), some (.int f3), some (.int f4), some (.int f5), some (.int v6), some (.int v7)], [.int (r_X12_has f5 v7), .int v6], st S hs, 0, 0)
      refine hX _ ?_
      clear hP hX hk P' X cal
      refine Wp.stepsG 1 (fun cal X P' hk hX hP => ?_)
      show ((r_X12_has f5 v7) = 0 → X (137, [some (.ref 76), none, some (.int f2), some (.int f3), some (.int f4), some (.int f5), some (.int v6), some (.int v7)], [.int v6], st S hs, 0, 0)) ∧ (¬ (r_X12_has f5 v7) = 0 → X (127, [some (.ref 76), none, some (.int f2), some (.int f3), some (.int f4), some (.int f5), some (.int v6), some (.int v7)], [.int v6], st S hs, 0, 0))
      refine ⟨fun hc => hX _ ?_, fun hc => hX _ ?_⟩
      · clear hP hX hk P' X cal
        rw [if_pos hc] at hl
        refine Wp.stepsG 5 (fun cal X P' hk hX hP => ?_)
        show X (105, [some (.ref 76), none, some (.int f2), some (.int f3), some (.int f4), some (.int f5), some (.int (v6 + 0)), some (.int (v7 + 1))], [], st S hs, 0, 0)
        refine hX _ ?_
        exact (ih (v6 + 0) (v7 + 1) q hl ct)
      · clear hP hX hk P' X cal
        rw [if_neg hc] at hl
        refine Wp.stepsG 4 (fun cal X P' hk hX hP => ?_)
        show vp_in v7 8 ∧ X (134, [some (.ref 76), none, some (.int f2), some (.int f3), some (.int f4), some (.int f5), some (.int v6), some (.int v7)], [.int ((S.1 94) v7.toNatClampNeg), .int v6], st S hs, 0, 0)
        obtain ⟨hg, hl⟩ := gd_some hl
        refine ⟨hg, hX _ ?_⟩
        clear hP hX hk P' X cal
        refine Wp.stepsG 5 (fun cal X P' hk hX hP => ?_)
        show X (105, [some (.ref 76), none, some (.int f2), some (.int f3), some (.int f4), some (.int f5), some (.int (v6 + ((S.1 94) v7.toNatClampNeg))), some (.int (v7 + 1))], [], st S hs, 0, 0)
        refine hX _ ?_
        exact (ih (v6 + ((S.1 94) v7.toNatClampNeg)) (v7 + 1) q hl ct)
def lp_X12_spared_75 (S : St) (f2 : Int32) : Nat → Int32 → Int32 → Int32 → Option (Int32)
  | 0, _, _, _ => none
  | n + 1, v3, v4, v5 =>
    if ((1 : Int32) <<< ((S.1 76 0) &&& 31)) ≤ v5 then
      some v4
    else
      (r_X12_ones v5).bind fun q3 =>
      if q3 = f2 then
        (lp_X12_spared_105 S f2 v3 v4 v5 4000 0 0).bind fun q4 =>
          if v3 = 0 then
            if q4 < v4 then
              lp_X12_spared_75 S f2 n 0 q4 (v5 + 1)
            else
              lp_X12_spared_75 S f2 n v3 v4 (v5 + 1)
          else
            lp_X12_spared_75 S f2 n 0 q4 (v5 + 1)
      else
        lp_X12_spared_75 S f2 n v3 v4 (v5 + 1)
set_option maxRecDepth 20000 in
set_option maxHeartbeats 4000000 in
theorem e_lp_X12_spared_75 (d : Nat) (hs : List Hr) (P : Option Value → Hp → Prop) (S : St) (f2 : Int32) : ∀ (n : Nat) (v3 : Int32) (v4 : Int32) (v5 : Int32) (q : Int32), lp_X12_spared_75 S f2 n v3 v4 v5 = some q → (WM mi_X12_spared (d + 5) P 173 [some (.ref 76), none, some (.int f2), none, some (.int q), none, none, none] [] (st S hs)) → WM mi_X12_spared (d + 5) P 75 [some (.ref 76), none, some (.int f2), some (.int v3), some (.int v4), some (.int v5), none, none] [] (st S hs) := by
  intro n
  induction n with
  | zero =>
    intro v3 v4 v5 q hl
    cases hl
  | succ n ih =>
    intro v3 v4 v5 q hl ct
    rw [lp_X12_spared_75] at hl
    refine Wp.stepsG 6 (fun cal X P' hk hX hP => ?_)
    show (((1 : Int32) <<< ((S.1 76 0) &&& 31)) ≤ v5 → X (173, [some (.ref 76), none, some (.int f2), some (.int v3), some (.int v4), some (.int v5), none, none], [], st S hs, 0, 0)) ∧ (¬ ((1 : Int32) <<< ((S.1 76 0) &&& 31)) ≤ v5 → X (86, [some (.ref 76), none, some (.int f2), some (.int v3), some (.int v4), some (.int v5), none, none], [], st S hs, 0, 0))
    refine ⟨fun hc => hX _ ?_, fun hc => hX _ ?_⟩
    · clear hP hX hk P' X cal
      rw [if_pos hc] at hl
      have hl := Option.some.inj hl
      subst hl
      exact Wp.weak (leL.k (leL.k (leL.k (leL.n (leL.k (leL.n (leL.k (leL.k leL.z)))))))) (ct)
    · clear hP hX hk P' X cal
      rw [if_neg hc] at hl
      refine Wp.stepsG 3 (fun cal X P' hk hX hP => ?_)
      show kcall cal ix_X12_ones [.ref 76, .int v5] (st S hs) [] 0 0 (0, 0) (fun v σ' c' m' => X (92, [some (.ref 76), none, some (.int f2), some (.int v3), some (.int v4), some (.int v5), none, none], v.toList ++ [], σ', c', m'))
      obtain ⟨q3, hq3, hl⟩ := bd_some hl
      refine kcall0 rfl (hk _ _ _ _ _ _ (e_X12_ones (d + 4) S hs v5 q3 hq3 _ ?_))
      show X (92, [some (.ref 76), none, some (.int f2), some (.int v3), some (.int v4), some (.int v5), none, none], [.int q3], st S hs, 0, 0)
      refine hX _ ?_
      clear hP hX hk P' X cal
      refine Wp.stepsG 2 (fun cal X P' hk hX hP => ?_)
      show (q3 = f2 → X (99, [some (.ref 76), none, some (.int f2), some (.int v3), some (.int v4), some (.int v5), none, none], [], st S hs, 0, 0)) ∧ (¬ q3 = f2 → X (96, [some (.ref 76), none, some (.int f2), some (.int v3), some (.int v4), some (.int v5), none, none], [], st S hs, 0, 0))
      refine ⟨fun hc => hX _ ?_, fun hc => hX _ ?_⟩
      · clear hP hX hk P' X cal
        rw [if_pos hc] at hl
        refine Wp.stepsG 4 (fun cal X P' hk hX hP => ?_)
        show X (105, [some (.ref 76), none, some (.int f2), some (.int v3), some (.int v4), some (.int v5), some (.int 0), some (.int 0)], [], st S hs, 0, 0)
        refine hX _ ?_
        clear hP hX hk P' X cal
        obtain ⟨q4, hq4, hl⟩ := bd_some hl
        refine (e_lp_X12_spared_105 d hs P S f2 v3 v4 v5 _ 0 0 q4 hq4 ?_)
        refine Wp.stepsG 2 (fun cal X P' hk hX hP => ?_)
        show (¬ v3 = 0 → X (161, [some (.ref 76), none, some (.int f2), some (.int v3), some (.int v4), some (.int v5), some (.int q4), none], [], st S hs, 0, 0)) ∧ (v3 = 0 → X (151, [some (.ref 76), none, some (.int f2), some (.int v3), some (.int v4), some (.int v5), some (.int q4), none], [], st S hs, 0, 0))
        refine ⟨fun hc => hX _ ?_, fun hc => hX _ ?_⟩
        · clear hP hX hk P' X cal
          rw [if_neg hc] at hl
          refine Wp.stepsG 6 (fun cal X P' hk hX hP => ?_)
          show X (75, [some (.ref 76), none, some (.int f2), some (.int 0), some (.int q4), some (.int (v5 + 1)), some (.int q4), none], [], st S hs, 0, 0)
          refine hX _ ?_
          exact Wp.weak (leL.k (leL.k (leL.k (leL.k (leL.k (leL.k (leL.n (leL.k leL.z)))))))) (ih 0 q4 (v5 + 1) q hl ct)
        · clear hP hX hk P' X cal
          rw [if_pos hc] at hl
          refine Wp.stepsG 3 (fun cal X P' hk hX hP => ?_)
          show (q4 < v4 → X (161, [some (.ref 76), none, some (.int f2), some (.int v3), some (.int v4), some (.int v5), some (.int q4), none], [], st S hs, 0, 0)) ∧ (¬ q4 < v4 → X (158, [some (.ref 76), none, some (.int f2), some (.int v3), some (.int v4), some (.int v5), some (.int q4), none], [], st S hs, 0, 0))
          refine ⟨fun hc => hX _ ?_, fun hc => hX _ ?_⟩
          · clear hP hX hk P' X cal
            rw [if_pos hc] at hl
            refine Wp.stepsG 6 (fun cal X P' hk hX hP => ?_)
            show X (75, [some (.ref 76), none, some (.int f2), some (.int 0), some (.int q4), some (.int (v5 + 1)), some (.int q4), none], [], st S hs, 0, 0)
            refine hX _ ?_
            exact Wp.weak (leL.k (leL.k (leL.k (leL.k (leL.k (leL.k (leL.n (leL.k leL.z)))))))) (ih 0 q4 (v5 + 1) q hl ct)
          · clear hP hX hk P' X cal
            rw [if_neg hc] at hl
            refine Wp.stepsG 3 (fun cal X P' hk hX hP => ?_)
            show X (75, [some (.ref 76), none, some (.int f2), some (.int v3), some (.int v4), some (.int (v5 + 1)), some (.int q4), none], [], st S hs, 0, 0)
            refine hX _ ?_
            exact Wp.weak (leL.k (leL.k (leL.k (leL.k (leL.k (leL.k (leL.n (leL.k leL.z)))))))) (ih v3 v4 (v5 + 1) q hl ct)
      · clear hP hX hk P' X cal
        rw [if_neg hc] at hl
        refine Wp.stepsG 3 (fun cal X P' hk hX hP => ?_)
        show X (75, [some (.ref 76), none, some (.int f2), some (.int v3), some (.int v4), some (.int (v5 + 1)), none, none], [], st S hs, 0, 0)
        refine hX _ ?_
        exact (ih v3 v4 (v5 + 1) q hl ct)
def r_X12_spared (S : St) (a1 : Int32) (a2 : Int32) : Option (Int32 × St) :=
  if (r_X12_isHearer S a1) = 0 then
    some ((-10001), S)
  else
    if (r_X12_in a2 0 8) = 0 then
      some ((-10002), S)
    else
      if a2 ≤ (S.1 76 0) then
        (lp_X12_spared_41 a1 a2 4000 0 S).bind fun q2 =>
          (lp_X12_spared_75 q2 a2 4000 1 0 0).bind fun q5 =>
            some (q5, q2)
      else
        some ((-10005), S)
set_option maxRecDepth 20000 in
set_option maxHeartbeats 4000000 in
theorem e_X12_spared (d : Nat) (S : St) (hs : List Hr) (a1 : Int32) (a2 : Int32) (v : Int32 × St) (hr : r_X12_spared S a1 a2 = some v) (P : Option Value → Hp → Prop) (h : P (some (.int v.1)) (st v.2 hs)) : Ev (d + 6) ix_X12_spared 0 0 [.ref 76, .int a1, .int a2] (st S hs) P := by
  refine Ev.intro (M := mi_X12_spared) rfl (Nat.le_of_ble_eq_true rfl) ?_
  unfold r_X12_spared at hr
  refine Wp.stepsG 3 (fun cal X P' hk hX hP => ?_)
  show kcall cal ix_X12_isHearer [.ref 76, .int a1] (st S hs) [] 0 0 (0, 0) (fun v σ' c' m' => X (5, [some (.ref 76), some (.int a1), some (.int a2), none, none, none, none, none], v.toList ++ [], σ', c', m'))
  refine kcall0 rfl (hk _ _ _ _ _ _ (e_X12_isHearer (d + 3) S hs a1 _ ?_))
  show X (5, [some (.ref 76), some (.int a1), some (.int a2), none, none, none, none, none], [.int (r_X12_isHearer S a1)], st S hs, 0, 0)
  refine hX _ ?_
  clear hP hX hk P' X cal
  refine Wp.stepsG 1 (fun cal X P' hk hX hP => ?_)
  show (¬ (r_X12_isHearer S a1) = 0 → X (12, [some (.ref 76), some (.int a1), some (.int a2), none, none, none, none, none], [], st S hs, 0, 0)) ∧ ((r_X12_isHearer S a1) = 0 → X (8, [some (.ref 76), some (.int a1), some (.int a2), none, none, none, none, none], [], st S hs, 0, 0))
  refine ⟨fun hc => hX _ ?_, fun hc => hX _ ?_⟩
  · clear hP hX hk P' X cal
    rw [if_neg hc] at hr
    refine Wp.stepsG 5 (fun cal X P' hk hX hP => ?_)
    show kcall cal ix_X12_in [.ref 76, .int a2, .int 0, .int 8] (st S hs) [] 0 0 (0, 0) (fun v σ' c' m' => X (20, [some (.ref 76), some (.int a1), some (.int a2), none, none, none, none, none], v.toList ++ [], σ', c', m'))
    refine kcall0 rfl (hk _ _ _ _ _ _ (e_X12_in (d + 4) S hs a2 0 8 _ ?_))
    show X (20, [some (.ref 76), some (.int a1), some (.int a2), none, none, none, none, none], [.int (r_X12_in a2 0 8)], st S hs, 0, 0)
    refine hX _ ?_
    clear hP hX hk P' X cal
    refine Wp.stepsG 1 (fun cal X P' hk hX hP => ?_)
    show (¬ (r_X12_in a2 0 8) = 0 → X (27, [some (.ref 76), some (.int a1), some (.int a2), none, none, none, none, none], [], st S hs, 0, 0)) ∧ ((r_X12_in a2 0 8) = 0 → X (23, [some (.ref 76), some (.int a1), some (.int a2), none, none, none, none, none], [], st S hs, 0, 0))
    refine ⟨fun hc => hX _ ?_, fun hc => hX _ ?_⟩
    · clear hP hX hk P' X cal
      rw [if_neg hc] at hr
      refine Wp.stepsG 4 (fun cal X P' hk hX hP => ?_)
      show (a2 ≤ (S.1 76 0) → X (39, [some (.ref 76), some (.int a1), some (.int a2), none, none, none, none, none], [], st S hs, 0, 0)) ∧ (¬ a2 ≤ (S.1 76 0) → X (35, [some (.ref 76), some (.int a1), some (.int a2), none, none, none, none, none], [], st S hs, 0, 0))
      refine ⟨fun hc => hX _ ?_, fun hc => hX _ ?_⟩
      · clear hP hX hk P' X cal
        rw [if_pos hc] at hr
        refine Wp.stepsG 2 (fun cal X P' hk hX hP => ?_)
        show X (41, [some (.ref 76), some (.int a1), some (.int a2), some (.int 0), none, none, none, none], [], st S hs, 0, 0)
        refine hX _ ?_
        clear hP hX hk P' X cal
        obtain ⟨q2, hq2, hr⟩ := bd_some hr
        refine (e_lp_X12_spared_41 d hs P a1 a2 _ 0 S q2 hq2 ?_)
        refine Wp.stepsG 6 (fun cal X P' hk hX hP => ?_)
        show X (75, [some (.ref 76), some (.int a1), some (.int a2), some (.int 1), some (.int 0), some (.int 0), none, none], [], st q2 hs, 0, 0)
        refine hX _ ?_
        clear hP hX hk P' X cal
        obtain ⟨q5, hq5, hr⟩ := bd_some hr
        refine Wp.weak (leL.k (leL.n (leL.k (leL.k (leL.k (leL.k (leL.k (leL.k leL.z)))))))) (e_lp_X12_spared_75 d hs P q2 a2 _ 1 0 0 q5 hq5 ?_)
        have hr := Option.some.inj hr
        subst hr
        refine Wp.stepsG 2 (fun cal X P' hk hX hP => ?_)
        exact hP _ _ h
      · clear hP hX hk P' X cal
        rw [if_neg hc] at hr
        have hr := Option.some.inj hr
        subst hr
        refine Wp.stepsG 2 (fun cal X P' hk hX hP => ?_)
        exact hP _ _ h
    · clear hP hX hk P' X cal
      rw [if_pos hc] at hr
      have hr := Option.some.inj hr
      subst hr
      refine Wp.stepsG 2 (fun cal X P' hk hX hP => ?_)
      exact hP _ _ h
  · clear hP hX hk P' X cal
    rw [if_pos hc] at hr
    have hr := Option.some.inj hr
    subst hr
    refine Wp.stepsG 2 (fun cal X P' hk hX hP => ?_)
    exact hP _ _ h
