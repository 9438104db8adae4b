set_option maxRecDepth 20000 in
set_option maxHeartbeats 4000000 in
theorem e_X5_learnPart_d1_60 (d : Nat) (S : St) (hs : List Hr) (v : Int32 × St) (hr : r_X5_learnPart_d1 S 60 = some v) (P : Option Value → Hp → Prop) (h : P (some (.int v.1)) (st v.2 hs)) : Ev (d + 12) ix_X5_learnPart 0 0 [.ref 60, .int 1] (st S hs) P := by
  refine Ev.intro (M := mi_X5_learnPart) rfl (Nat.le_of_ble_eq_true rfl) ?_
  unfold r_X5_learnPart_d1 at hr
  refine Wp.stepsG 4 (fun cal X P' hk hX hP => ?_)
  show kcall cal ix_X5_signAt [.ref 60, .int (S.1 60 7)] (st S hs) [] 0 0 (0, 0) (fun v σ' c' m' => X (8, [some (.ref 60), some (.int 1), none, none, none, none], v.toList ++ [], σ', c', m'))
  obtain ⟨q1, hq1, hr⟩ := bd_some hr
  refine kcall0 rfl (hk _ _ _ _ _ _ (e_X5_signAt_60 (d + 10) S hs (S.1 60 7) q1 hq1 _ ?_))
  show X (8, [some (.ref 60), some (.int 1), none, none, none, none], [.int q1], st S hs, 0, 0)
  refine hX _ ?_
  clear hP hX hk P' X cal
  refine Wp.stepsG 4 (fun cal X P' hk hX hP => ?_)
  show (q1 = 33 → X (21, [some (.ref 60), some (.int 1), some (.int q1), none, none, none], [], st S hs, 0, 0)) ∧ (¬ q1 = 33 → X (15, [some (.ref 60), some (.int 1), some (.int q1), none, none, none], [], st S hs, 0, 0))
  refine ⟨fun hc => hX _ ?_, fun hc => hX _ ?_⟩
  · clear hP hX hk P' X cal
    rw [if_pos hc] at hr
    refine Wp.stepsG 3 (fun cal X P' hk hX hP => ?_)
    show ((1 : Int32) < 4 → X (28, [some (.ref 60), some (.int 1), some (.int q1), none, none, none], [], st S hs, 0, 0)) ∧ (¬ (1 : Int32) < 4 → X (26, [some (.ref 60), some (.int 1), some (.int q1), none, none, none], [], st S hs, 0, 0))
    refine ⟨fun _ => hX _ ?_, fun hc => absurd hc (by decide)⟩
    clear hP hX hk P' X cal
    refine Wp.stepsG 9 (fun cal X P' hk hX hP => ?_)
    show (¬ q1 = 33 → X (72, [some (.ref 60), some (.int 1), some (.int q1), none, none, none], [], st (sI S 60 7 ((S.1 60 7) + 1)) hs, 0, 0)) ∧ (q1 = 33 → X (44, [some (.ref 60), some (.int 1), some (.int q1), none, none, none], [], st (sI S 60 7 ((S.1 60 7) + 1)) hs, 0, 0))
    refine ⟨fun hc => hX _ ?_, fun hc => hX _ ?_⟩
    · clear hP hX hk P' X cal
      rw [if_neg hc] at hr
      refine Wp.stepsG 5 (fun cal X P' hk hX hP => ?_)
      show kcall cal ix_X5_learnEither [.ref 60, .int 2] (st (sI S 60 7 ((S.1 60 7) + 1)) hs) [] 0 0 (0, 0) (fun v σ' c' m' => X (79, [some (.ref 60), some (.int 1), some (.int q1), none, none, none], v.toList ++ [], σ', c', m'))
      obtain ⟨q2, hq2, hr⟩ := bd_some hr
      refine kcall0 rfl (hk _ _ _ _ _ _ (e_X5_learnEither_d2_60 (d + 0) (sI S 60 7 ((S.1 60 7) + 1)) hs q2 hq2 _ ?_))
      show X (79, [some (.ref 60), some (.int 1), some (.int q1), none, none, none], [.int q2.1], st q2.2 hs, 0, 0)
      refine hX _ ?_
      clear hP hX hk P' X cal
      refine Wp.stepsG 1 (fun cal X P' hk hX hP => ?_)
      show (q2.1 = 0 → X (95, [some (.ref 60), some (.int 1), some (.int q1), none, none, none], [], st q2.2 hs, 0, 0)) ∧ (¬ q2.1 = 0 → X (82, [some (.ref 60), some (.int 1), some (.int q1), none, none, none], [], st q2.2 hs, 0, 0))
      refine ⟨fun hc => hX _ ?_, fun hc => hX _ ?_⟩
      · clear hP hX hk P' X cal
        rw [if_pos hc] at hr
        have hr := Option.some.inj hr
        subst hr
        refine Wp.stepsG 2 (fun cal X P' hk hX hP => ?_)
        exact ⟨Or.inl rfl, hP _ _ h⟩
      · clear hP hX hk P' X cal
        rw [if_neg hc] at hr
        refine Wp.stepsG 3 (fun cal X P' hk hX hP => ?_)
        show kcall cal ix_X5_goBy [.ref 60, .int 41] (st q2.2 hs) [] 0 0 (0, 0) (fun v σ' c' m' => X (88, [some (.ref 60), some (.int 1), some (.int q1), none, none, none], v.toList ++ [], σ', c', m'))
        obtain ⟨q3, hq3, hr⟩ := bd_some hr
        refine kcall0 rfl (hk _ _ _ _ _ _ (e_X5_goBy_60 (d + 9) q2.2 hs 41 q3 hq3 _ ?_))
        show X (88, [some (.ref 60), some (.int 1), some (.int q1), none, none, none], [.int q3.1], st q3.2 hs, 0, 0)
        refine hX _ ?_
        clear hP hX hk P' X cal
        refine Wp.stepsG 1 (fun cal X P' hk hX hP => ?_)
        show (q3.1 = 0 → X (95, [some (.ref 60), some (.int 1), some (.int q1), none, none, none], [], st q3.2 hs, 0, 0)) ∧ (¬ q3.1 = 0 → X (91, [some (.ref 60), some (.int 1), some (.int q1), none, none, none], [], st q3.2 hs, 0, 0))
        refine ⟨fun hc => hX _ ?_, fun hc => hX _ ?_⟩
        · clear hP hX hk P' X cal
          rw [if_pos hc] at hr
          have hr := Option.some.inj hr
          subst hr
          refine Wp.stepsG 2 (fun cal X P' hk hX hP => ?_)
          exact ⟨Or.inl rfl, hP _ _ h⟩
        · clear hP hX hk P' X cal
          rw [if_neg hc] at hr
          have hr := Option.some.inj hr
          subst hr
          refine Wp.stepsG 3 (fun cal X P' hk hX hP => ?_)
          exact ⟨Or.inr rfl, hP _ _ h⟩
    · clear hP hX hk P' X cal
      rw [if_pos hc] at hr
      refine Wp.stepsG 5 (fun cal X P' hk hX hP => ?_)
      show kcall cal ix_X5_learnPart [.ref 60, .int 2] (st (sI S 60 7 ((S.1 60 7) + 1)) hs) [] 0 0 (0, 0) (fun v σ' c' m' => X (51, [some (.ref 60), some (.int 1), some (.int q1), none, none, none], v.toList ++ [], σ', c', m'))
      obtain ⟨q4, hq4, hr⟩ := bd_some hr
      refine kcall0 rfl (hk _ _ _ _ _ _ (e_X5_learnPart_d2_60 (d + 2) (sI S 60 7 ((S.1 60 7) + 1)) hs q4 hq4 _ ?_))
      show X (51, [some (.ref 60), some (.int 1), some (.int q1), none, none, none], [.int q4.1], st q4.2 hs, 0, 0)
      refine hX _ ?_
      clear hP hX hk P' X cal
      refine Wp.stepsG 1 (fun cal X P' hk hX hP => ?_)
      show (q4.1 = 0 → X (68, [some (.ref 60), some (.int 1), some (.int q1), none, none, none], [], st q4.2 hs, 0, 0)) ∧ (¬ q4.1 = 0 → X (54, [some (.ref 60), some (.int 1), some (.int q1), none, none, none], [], st q4.2 hs, 0, 0))
      refine ⟨fun hc => hX _ ?_, fun hc => hX _ ?_⟩
      · clear hP hX hk P' X cal
        rw [if_pos hc] at hr
        have hr := Option.some.inj hr
        subst hr
        refine Wp.stepsG 3 (fun cal X P' hk hX hP => ?_)
        exact ⟨Or.inl rfl, hP _ _ h⟩
      · clear hP hX hk P' X cal
        rw [if_neg hc] at hr
        refine Wp.stepsG 4 (fun cal X P' hk hX hP => ?_)
        show kcall cal ix_X5_add [.ref 60, .int 18, .int 0] (st q4.2 hs) [] 0 0 (0, 0) (fun v σ' c' m' => X (61, [some (.ref 60), some (.int 1), some (.int q1), none, none, none], v.toList ++ [], σ', c', m'))
        obtain ⟨q5, hq5, hr⟩ := bd_some hr
        refine kcall0 rfl (hk _ _ _ _ _ _ (e_X5_add_60 (d + 10) q4.2 hs 18 0 q5 hq5 _ ?_))
        show X (61, [some (.ref 60), some (.int 1), some (.int q1), none, none, none], [.int q5.1], st q5.2 hs, 0, 0)
        refine hX _ ?_
        clear hP hX hk P' X cal
        refine Wp.stepsG 1 (fun cal X P' hk hX hP => ?_)
        show (q5.1 = 0 → X (68, [some (.ref 60), some (.int 1), some (.int q1), none, none, none], [], st q5.2 hs, 0, 0)) ∧ (¬ q5.1 = 0 → X (64, [some (.ref 60), some (.int 1), some (.int q1), none, none, none], [], st q5.2 hs, 0, 0))
        refine ⟨fun hc => hX _ ?_, fun hc => hX _ ?_⟩
        · clear hP hX hk P' X cal
          rw [if_pos hc] at hr
          have hr := Option.some.inj hr
          subst hr
          refine Wp.stepsG 3 (fun cal X P' hk hX hP => ?_)
          exact ⟨Or.inl rfl, hP _ _ h⟩
        · clear hP hX hk P' X cal
          rw [if_neg hc] at hr
          have hr := Option.some.inj hr
          subst hr
          refine Wp.stepsG 3 (fun cal X P' hk hX hP => ?_)
          exact ⟨Or.inr rfl, hP _ _ h⟩
  · clear hP hX hk P' X cal
    rw [if_neg hc] at hr
    refine Wp.stepsG 3 (fun cal X P' hk hX hP => ?_)
    show (¬ q1 = 40 → X (97, [some (.ref 60), some (.int 1), some (.int q1), none, none, none], [], st S hs, 0, 0)) ∧ (q1 = 40 → X (21, [some (.ref 60), some (.int 1), some (.int q1), none, none, none], [], st S hs, 0, 0))
    refine ⟨fun hc => hX _ ?_, fun hc => hX _ ?_⟩
    · clear hP hX hk P' X cal
      rw [if_neg hc] at hr
      refine Wp.stepsG 3 (fun cal X P' hk hX hP => ?_)
      show kcall cal ix_X5_goByOneOf [.ref 60, .ref 1] (st S hs) [] 0 0 (0, 0) (fun v σ' c' m' => X (103, [some (.ref 60), some (.int 1), some (.int q1), none, none, none], v.toList ++ [], σ', c', m'))
      obtain ⟨q6, hq6, hr⟩ := bd_some hr
      refine kcall0 rfl (hk _ _ _ _ _ _ (e_X5_goByOneOf_1_60 (d + 9) S hs q6 hq6 _ ?_))
      show X (103, [some (.ref 60), some (.int 1), some (.int q1), none, none, none], [.int q6.1], st q6.2 hs, 0, 0)
      refine hX _ ?_
      clear hP hX hk P' X cal
      refine Wp.stepsG 3 (fun cal X P' hk hX hP => ?_)
      show (0 ≤ q6.1 → X (112, [some (.ref 60), some (.int 1), some (.int q1), some (.int q6.1), none, none], [], st q6.2 hs, 0, 0)) ∧ (¬ 0 ≤ q6.1 → X (108, [some (.ref 60), some (.int 1), some (.int q1), some (.int q6.1), none, none], [], st q6.2 hs, 0, 0))
      refine ⟨fun hc => hX _ ?_, fun hc => hX _ ?_⟩
      · clear hP hX hk P' X cal
        rw [if_pos hc] at hr
        refine Wp.stepsG 3 (fun cal X P' hk hX hP => ?_)
        show kcall cal ix_X5_goByOneOf [.ref 60, .ref 2] (st q6.2 hs) [] 0 0 (0, 0) (fun v σ' c' m' => X (118, [some (.ref 60), some (.int 1), some (.int q1), some (.int q6.1), none, none], v.toList ++ [], σ', c', m'))
        obtain ⟨q7, hq7, hr⟩ := bd_some hr
        refine kcall0 rfl (hk _ _ _ _ _ _ (e_X5_goByOneOf_2_60 (d + 9) q6.2 hs q7 hq7 _ ?_))
        show X (118, [some (.ref 60), some (.int 1), some (.int q1), some (.int q6.1), none, none], [.int q7.1], st q7.2 hs, 0, 0)
        refine hX _ ?_
        clear hP hX hk P' X cal
        refine Wp.stepsG 3 (fun cal X P' hk hX hP => ?_)
        show (0 ≤ q7.1 → X (129, [some (.ref 60), some (.int 1), some (.int q1), some (.int q6.1), some (.int q7.1), none], [], st q7.2 hs, 0, 0)) ∧ (¬ 0 ≤ q7.1 → X (125, [some (.ref 60), some (.int 1), some (.int q1), some (.int q6.1), some (.int q7.1), none], [], st q7.2 hs, 0, 0))
        refine ⟨fun hc => hX _ ?_, fun hc => hX _ ?_⟩
        · clear hP hX hk P' X cal
          rw [if_pos hc] at hr
          refine Wp.stepsG 2 (fun cal X P' hk hX hP => ?_)
          show kcall cal ix_X5_goByNumber [.ref 60] (st q7.2 hs) [] 0 0 (0, 0) (fun v σ' c' m' => X (133, [some (.ref 60), some (.int 1), some (.int q1), some (.int q6.1), some (.int q7.1), none], v.toList ++ [], σ', c', m'))
          obtain ⟨q8, hq8, hr⟩ := bd_some hr
          refine kcall0 rfl (hk _ _ _ _ _ _ (e_X5_goByNumber_60 (d + 9) q7.2 hs q8 hq8 _ ?_))
          show X (133, [some (.ref 60), some (.int 1), some (.int q1), some (.int q6.1), some (.int q7.1), none], [.int q8.1], st q8.2 hs, 0, 0)
          refine hX _ ?_
          clear hP hX hk P' X cal
          refine Wp.stepsG 3 (fun cal X P' hk hX hP => ?_)
          show (q8.1 < 0 → X (159, [some (.ref 60), some (.int 1), some (.int q1), some (.int q6.1), some (.int q7.1), some (.int q8.1)], [], st q8.2 hs, 0, 0)) ∧ (¬ q8.1 < 0 → X (140, [some (.ref 60), some (.int 1), some (.int q1), some (.int q6.1), some (.int q7.1), some (.int q8.1)], [], st q8.2 hs, 0, 0))
          refine ⟨fun hc => hX _ ?_, fun hc => hX _ ?_⟩
          · clear hP hX hk P' X cal
            rw [if_pos hc] at hr
            have hr := Option.some.inj hr
            subst hr
            refine Wp.stepsG 2 (fun cal X P' hk hX hP => ?_)
            exact ⟨Or.inl rfl, hP _ _ h⟩
          · clear hP hX hk P' X cal
            rw [if_neg hc] at hr
            refine Wp.stepsG 8 (fun cal X P' hk hX hP => ?_)
            show kcall cal ix_X5_add [.ref 60, .int (((3 : Int32) * q6.1) + q7.1), .int q8.1] (st q8.2 hs) [] 0 0 (0, 0) (fun v σ' c' m' => X (152, [some (.ref 60), some (.int 1), some (.int q1), some (.int q6.1), some (.int q7.1), some (.int q8.1)], v.toList ++ [], σ', c', m'))
            obtain ⟨q9, hq9, hr⟩ := bd_some hr
            refine kcall0 rfl (hk _ _ _ _ _ _ (e_X5_add_60 (d + 10) q8.2 hs (((3 : Int32) * q6.1) + q7.1) q8.1 q9 hq9 _ ?_))
            show X (152, [some (.ref 60), some (.int 1), some (.int q1), some (.int q6.1), some (.int q7.1), some (.int q8.1)], [.int q9.1], st q9.2 hs, 0, 0)
            refine hX _ ?_
            clear hP hX hk P' X cal
            refine Wp.stepsG 1 (fun cal X P' hk hX hP => ?_)
            show (q9.1 = 0 → X (159, [some (.ref 60), some (.int 1), some (.int q1), some (.int q6.1), some (.int q7.1), some (.int q8.1)], [], st q9.2 hs, 0, 0)) ∧ (¬ q9.1 = 0 → X (155, [some (.ref 60), some (.int 1), some (.int q1), some (.int q6.1), some (.int q7.1), some (.int q8.1)], [], st q9.2 hs, 0, 0))
            refine ⟨fun hc => hX _ ?_, fun hc => hX _ ?_⟩
            · clear hP hX hk P' X cal
              rw [if_pos hc] at hr
              have hr := Option.some.inj hr
              subst hr
              refine Wp.stepsG 2 (fun cal X P' hk hX hP => ?_)
              exact ⟨Or.inl rfl, hP _ _ h⟩
            · clear hP hX hk P' X cal
              rw [if_neg hc] at hr
              have hr := Option.some.inj hr
              subst hr
              refine Wp.stepsG 3 (fun cal X P' hk hX hP => ?_)
              exact ⟨Or.inr rfl, hP _ _ h⟩
        · clear hP hX hk P' X cal
          rw [if_neg hc] at hr
          refine Wp.stepsG 5 (fun cal X P' hk hX hP => ?_)
          show (((-1) : Int32) < 0 → X (159, [some (.ref 60), some (.int 1), some (.int q1), some (.int q6.1), some (.int q7.1), some (.int (-1))], [], st q7.2 hs, 0, 0)) ∧ (¬ ((-1) : Int32) < 0 → X (140, [some (.ref 60), some (.int 1), some (.int q1), some (.int q6.1), some (.int q7.1), some (.int (-1))], [], st q7.2 hs, 0, 0))
          refine ⟨fun _ => hX _ ?_, fun hc => absurd hc (by decide)⟩
          clear hP hX hk P' X cal
          have hr := Option.some.inj hr
          subst hr
          refine Wp.stepsG 2 (fun cal X P' hk hX hP => ?_)
          exact ⟨Or.inl rfl, hP _ _ h⟩
      · clear hP hX hk P' X cal
        rw [if_neg hc] at hr
        refine Wp.stepsG 5 (fun cal X P' hk hX hP => ?_)
        show (0 ≤ ((-1) : Int32) → X (129, [some (.ref 60), some (.int 1), some (.int q1), some (.int q6.1), some (.int (-1)), none], [], st q6.2 hs, 0, 0)) ∧ (¬ 0 ≤ ((-1) : Int32) → X (125, [some (.ref 60), some (.int 1), some (.int q1), some (.int q6.1), some (.int (-1)), none], [], st q6.2 hs, 0, 0))
        refine ⟨fun hc => absurd hc (by decide), fun _ => hX _ ?_⟩
        clear hP hX hk P' X cal
        refine Wp.stepsG 5 (fun cal X P' hk hX hP => ?_)
        show (((-1) : Int32) < 0 → X (159, [some (.ref 60), some (.int 1), some (.int q1), some (.int q6.1), some (.int (-1)), some (.int (-1))], [], st q6.2 hs, 0, 0)) ∧ (¬ ((-1) : Int32) < 0 → X (140, [some (.ref 60), some (.int 1), some (.int q1), some (.int q6.1), some (.int (-1)), some (.int (-1))], [], st q6.2 hs, 0, 0))
        refine ⟨fun _ => hX _ ?_, fun hc => absurd hc (by decide)⟩
        clear hP hX hk P' X cal
        have hr := Option.some.inj hr
        subst hr
        refine Wp.stepsG 2 (fun cal X P' hk hX hP => ?_)
        exact ⟨Or.inl rfl, hP _ _ h⟩
    · clear hP hX hk P' X cal
      rw [if_pos hc] at hr
      refine Wp.stepsG 3 (fun cal X P' hk hX hP => ?_)
      show ((1 : Int32) < 4 → X (28, [some (.ref 60), some (.int 1), some (.int q1), none, none, none], [], st S hs, 0, 0)) ∧ (¬ (1 : Int32) < 4 → X (26, [some (.ref 60), some (.int 1), some (.int q1), none, none, none], [], st S hs, 0, 0))
      refine ⟨fun _ => hX _ ?_, fun hc => absurd hc (by decide)⟩
      clear hP hX hk P' X cal
      refine Wp.stepsG 9 (fun cal X P' hk hX hP => ?_)
      show (¬ q1 = 33 → X (72, [some (.ref 60), some (.int 1), some (.int q1), none, none, none], [], st (sI S 60 7 ((S.1 60 7) + 1)) hs, 0, 0)) ∧ (q1 = 33 → X (44, [some (.ref 60), some (.int 1), some (.int q1), none, none, none], [], st (sI S 60 7 ((S.1 60 7) + 1)) hs, 0, 0))
      refine ⟨fun hc => hX _ ?_, fun hc => hX _ ?_⟩
      · clear hP hX hk P' X cal
        rw [if_neg hc] at hr
        refine Wp.stepsG 5 (fun cal X P' hk hX hP => ?_)
        show kcall cal ix_X5_learnEither [.ref 60, .int 2] (st (sI S 60 7 ((S.1 60 7) + 1)) hs) [] 0 0 (0, 0) (fun v σ' c' m' => X (79, [some (.ref 60), some (.int 1), some (.int q1), none, none, none], v.toList ++ [], σ', c', m'))
        obtain ⟨q10, hq10, hr⟩ := bd_some hr
        refine kcall0 rfl (hk _ _ _ _ _ _ (e_X5_learnEither_d2_60 (d + 0) (sI S 60 7 ((S.1 60 7) + 1)) hs q10 hq10 _ ?_))
        show X (79, [some (.ref 60), some (.int 1), some (.int q1), none, none, none], [.int q10.1], st q10.2 hs, 0, 0)
        refine hX _ ?_
        clear hP hX hk P' X cal
        refine Wp.stepsG 1 (fun cal X P' hk hX hP => ?_)
        show (q10.1 = 0 → X (95, [some (.ref 60), some (.int 1), some (.int q1), none, none, none], [], st q10.2 hs, 0, 0)) ∧ (¬ q10.1 = 0 → X (82, [some (.ref 60), some (.int 1), some (.int q1), none, none, none], [], st q10.2 hs, 0, 0))
        refine ⟨fun hc => hX _ ?_, fun hc => hX _ ?_⟩
        · clear hP hX hk P' X cal
          rw [if_pos hc] at hr
          have hr := Option.some.inj hr
          subst hr
          refine Wp.stepsG 2 (fun cal X P' hk hX hP => ?_)
          exact ⟨Or.inl rfl, hP _ _ h⟩
        · clear hP hX hk P' X cal
          rw [if_neg hc] at hr
          refine Wp.stepsG 3 (fun cal X P' hk hX hP => ?_)
          show kcall cal ix_X5_goBy [.ref 60, .int 41] (st q10.2 hs) [] 0 0 (0, 0) (fun v σ' c' m' => X (88, [some (.ref 60), some (.int 1), some (.int q1), none, none, none], v.toList ++ [], σ', c', m'))
          obtain ⟨q11, hq11, hr⟩ := bd_some hr
          refine kcall0 rfl (hk _ _ _ _ _ _ (e_X5_goBy_60 (d + 9) q10.2 hs 41 q11 hq11 _ ?_))
          show X (88, [some (.ref 60), some (.int 1), some (.int q1), none, none, none], [.int q11.1], st q11.2 hs, 0, 0)
          refine hX _ ?_
          clear hP hX hk P' X cal
          refine Wp.stepsG 1 (fun cal X P' hk hX hP => ?_)
          show (q11.1 = 0 → X (95, [some (.ref 60), some (.int 1), some (.int q1), none, none, none], [], st q11.2 hs, 0, 0)) ∧ (¬ q11.1 = 0 → X (91, [some (.ref 60), some (.int 1), some (.int q1), none, none, none], [], st q11.2 hs, 0, 0))
          refine ⟨fun hc => hX _ ?_, fun hc => hX _ ?_⟩
          · clear hP hX hk P' X cal
            rw [if_pos hc] at hr
            have hr := Option.some.inj hr
            subst hr
            refine Wp.stepsG 2 (fun cal X P' hk hX hP => ?_)
            exact ⟨Or.inl rfl, hP _ _ h⟩
          · clear hP hX hk P' X cal
            rw [if_neg hc] at hr
            have hr := Option.some.inj hr
            subst hr
            refine Wp.stepsG 3 (fun cal X P' hk hX hP => ?_)
            exact ⟨Or.inr rfl, hP _ _ h⟩
      · clear hP hX hk P' X cal
        rw [if_pos hc] at hr
        refine Wp.stepsG 5 (fun cal X P' hk hX hP => ?_)
        show kcall cal ix_X5_learnPart [.ref 60, .int 2] (st (sI S 60 7 ((S.1 60 7) + 1)) hs) [] 0 0 (0, 0) (fun v σ' c' m' => X (51, [some (.ref 60), some (.int 1), some (.int q1), none, none, none], v.toList ++ [], σ', c', m'))
        obtain ⟨q12, hq12, hr⟩ := bd_some hr
        refine kcall0 rfl (hk _ _ _ _ _ _ (e_X5_learnPart_d2_60 (d + 2) (sI S 60 7 ((S.1 60 7) + 1)) hs q12 hq12 _ ?_))
        show X (51, [some (.ref 60), some (.int 1), some (.int q1), none, none, none], [.int q12.1], st q12.2 hs, 0, 0)
        refine hX _ ?_
        clear hP hX hk P' X cal
        refine Wp.stepsG 1 (fun cal X P' hk hX hP => ?_)
        show (q12.1 = 0 → X (68, [some (.ref 60), some (.int 1), some (.int q1), none, none, none], [], st q12.2 hs, 0, 0)) ∧ (¬ q12.1 = 0 → X (54, [some (.ref 60), some (.int 1), some (.int q1), none, none, none], [], st q12.2 hs, 0, 0))
        refine ⟨fun hc => hX _ ?_, fun hc => hX _ ?_⟩
        · clear hP hX hk P' X cal
          rw [if_pos hc] at hr
          have hr := Option.some.inj hr
          subst hr
          refine Wp.stepsG 3 (fun cal X P' hk hX hP => ?_)
          exact ⟨Or.inl rfl, hP _ _ h⟩
        · clear hP hX hk P' X cal
          rw [if_neg hc] at hr
          refine Wp.stepsG 4 (fun cal X P' hk hX hP => ?_)
          show kcall cal ix_X5_add [.ref 60, .int 18, .int 0] (st q12.2 hs) [] 0 0 (0, 0) (fun v σ' c' m' => X (61, [some (.ref 60), some (.int 1), some (.int q1), none, none, none], v.toList ++ [], σ', c', m'))
          obtain ⟨q13, hq13, hr⟩ := bd_some hr
          refine kcall0 rfl (hk _ _ _ _ _ _ (e_X5_add_60 (d + 10) q12.2 hs 18 0 q13 hq13 _ ?_))
          show X (61, [some (.ref 60), some (.int 1), some (.int q1), none, none, none], [.int q13.1], st q13.2 hs, 0, 0)
          refine hX _ ?_
          clear hP hX hk P' X cal
          refine Wp.stepsG 1 (fun cal X P' hk hX hP => ?_)
          show (q13.1 = 0 → X (68, [some (.ref 60), some (.int 1), some (.int q1), none, none, none], [], st q13.2 hs, 0, 0)) ∧ (¬ q13.1 = 0 → X (64, [some (.ref 60), some (.int 1), some (.int q1), none, none, none], [], st q13.2 hs, 0, 0))
          refine ⟨fun hc => hX _ ?_, fun hc => hX _ ?_⟩
          · clear hP hX hk P' X cal
            rw [if_pos hc] at hr
            have hr := Option.some.inj hr
            subst hr
            refine Wp.stepsG 3 (fun cal X P' hk hX hP => ?_)
            exact ⟨Or.inl rfl, hP _ _ h⟩
          · clear hP hX hk P' X cal
            rw [if_neg hc] at hr
            have hr := Option.some.inj hr
            subst hr
            refine Wp.stepsG 3 (fun cal X P' hk hX hP => ?_)
            exact ⟨Or.inr rfl, hP _ _ h⟩
set_option maxRecDepth 20000 in
set_option maxHeartbeats 4000000 in
theorem e_lp_X5_learnBoth_d1_8_60 (d : Nat) (hs : List Hr) (P : Option Value → Hp → Prop) : ∀ (n : Nat) (v2 : Int32) (v3 : Int32) (S : St) (q : Int32 × St), lp_X5_learnBoth_d1_8 60 n v2 v3 S = some q → (WM mi_X5_learnBoth (d + 12) P 57 [some (.ref 60), some (.int 1), some (.int q.1), none] [] (st q.2 hs)) → WM mi_X5_learnBoth (d + 12) P 8 [some (.ref 60), some (.int 1), some (.int v2), some (.int v3)] [] (st S hs) := by
  intro n
  induction n with
  | zero =>
    intro v2 v3 S q hl
    cases hl
  | succ n ih =>
    intro v2 v3 S q hl ct
    rw [lp_X5_learnBoth_d1_8] at hl
    refine Wp.stepsG 3 (fun cal X P' hk hX hP => ?_)
    show (100 ≤ v3 → X (57, [some (.ref 60), some (.int 1), some (.int v2), some (.int v3)], [], st S hs, 0, 0)) ∧ (¬ 100 ≤ v3 → X (14, [some (.ref 60), some (.int 1), some (.int v2), some (.int v3)], [], st S hs, 0, 0))
    refine ⟨fun hc => hX _ ?_, fun hc => hX _ ?_⟩
    · clear hP hX hk P' X cal
      rw [if_pos hc] at hl
      have hl := Option.some.inj hl
      subst hl
      exact Wp.weak (leL.k (leL.k (leL.k (leL.n leL.z)))) (ct)
    · clear hP hX hk P' X cal
      rw [if_neg hc] at hl
      refine Wp.stepsG 2 (fun cal X P' hk hX hP => ?_)
      show (v2 = 0 → X (57, [some (.ref 60), some (.int 1), some (.int v2), some (.int v3)], [], st S hs, 0, 0)) ∧ (¬ v2 = 0 → X (18, [some (.ref 60), some (.int 1), some (.int v2), some (.int v3)], [], st S hs, 0, 0))
      refine ⟨fun hc => hX _ ?_, fun hc => hX _ ?_⟩
      · clear hP hX hk P' X cal
        rw [if_pos hc] at hl
        have hl := Option.some.inj hl
        subst hl
        exact Wp.weak (leL.k (leL.k (leL.k (leL.n leL.z)))) (ct)
      · clear hP hX hk P' X cal
        rw [if_neg hc] at hl
        refine Wp.stepsG 3 (fun cal X P' hk hX hP => ?_)
        show kcall cal ix_X5_goBy [.ref 60, .int 38] (st S hs) [] 0 0 (0, 0) (fun v σ' c' m' => X (24, [some (.ref 60), some (.int 1), some (.int v2), some (.int v3)], v.toList ++ [], σ', c', m'))
        obtain ⟨q2, hq2, hl⟩ := bd_some hl
        refine kcall0 rfl (hk _ _ _ _ _ _ (e_X5_goBy_60 (d + 10) S hs 38 q2 hq2 _ ?_))
        show X (24, [some (.ref 60), some (.int 1), some (.int v2), some (.int v3)], [.int q2.1], st q2.2 hs, 0, 0)
        refine hX _ ?_
        clear hP hX hk P' X cal
        refine Wp.stepsG 1 (fun cal X P' hk hX hP => ?_)
        show (q2.1 = 0 → X (57, [some (.ref 60), some (.int 1), some (.int v2), some (.int v3)], [], st q2.2 hs, 0, 0)) ∧ (¬ q2.1 = 0 → X (27, [some (.ref 60), some (.int 1), some (.int v2), some (.int v3)], [], st q2.2 hs, 0, 0))
        refine ⟨fun hc => hX _ ?_, fun hc => hX _ ?_⟩
        · clear hP hX hk P' X cal
          rw [if_pos hc] at hl
          have hl := Option.some.inj hl
          subst hl
          exact Wp.weak (leL.k (leL.k (leL.k (leL.n leL.z)))) (ct)
        · clear hP hX hk P' X cal
          rw [if_neg hc] at hl
          refine Wp.stepsG 3 (fun cal X P' hk hX hP => ?_)
          show kcall cal ix_X5_learnPart [.ref 60, .int 1] (st q2.2 hs) [] 0 0 (0, 0) (fun v σ' c' m' => X (32, [some (.ref 60), some (.int 1), some (.int v2), some (.int v3)], v.toList ++ [], σ', c', m'))
          obtain ⟨q3, hq3, hl⟩ := bd_some hl
          refine kcall0 rfl (hk _ _ _ _ _ _ (e_X5_learnPart_d1_60 (d + 0) q2.2 hs q3 hq3 _ ?_))
          show X (32, [some (.ref 60), some (.int 1), some (.int v2), some (.int v3)], [.int q3.1], st q3.2 hs, 0, 0)
          refine hX _ ?_
          clear hP hX hk P' X cal
          refine Wp.stepsG 1 (fun cal X P' hk hX hP => ?_)
          show (q3.1 = 0 → X (49, [some (.ref 60), some (.int 1), some (.int v2), some (.int v3)], [], st q3.2 hs, 0, 0)) ∧ (¬ q3.1 = 0 → X (35, [some (.ref 60), some (.int 1), some (.int v2), some (.int v3)], [], st q3.2 hs, 0, 0))
          refine ⟨fun hc => hX _ ?_, fun hc => hX _ ?_⟩
          · clear hP hX hk P' X cal
            rw [if_pos hc] at hl
            refine Wp.stepsG 4 (fun cal X P' hk hX hP => ?_)
            show X (8, [some (.ref 60), some (.int 1), some (.int 0), some (.int (v3 + 1))], [], st q3.2 hs, 0, 0)
            refine hX _ ?_
            exact (ih 0 (v3 + 1) q3.2 q hl ct)
          · clear hP hX hk P' X cal
            rw [if_neg hc] at hl
            refine Wp.stepsG 4 (fun cal X P' hk hX hP => ?_)
            show kcall cal ix_X5_add [.ref 60, .int 19, .int 0] (st q3.2 hs) [] 0 0 (0, 0) (fun v σ' c' m' => X (42, [some (.ref 60), some (.int 1), some (.int v2), some (.int v3)], v.toList ++ [], σ', c', m'))
            obtain ⟨q4, hq4, hl⟩ := bd_some hl
            refine kcall0 rfl (hk _ _ _ _ _ _ (e_X5_add_60 (d + 11) q3.2 hs 19 0 q4 hq4 _ ?_))
            show X (42, [some (.ref 60), some (.int 1), some (.int v2), some (.int v3)], [.int q4.1], st q4.2 hs, 0, 0)
            refine hX _ ?_
            clear hP hX hk P' X cal
            refine Wp.stepsG 1 (fun cal X P' hk hX hP => ?_)
            show (q4.1 = 0 → X (49, [some (.ref 60), some (.int 1), some (.int v2), some (.int v3)], [], st q4.2 hs, 0, 0)) ∧ (¬ q4.1 = 0 → X (45, [some (.ref 60), some (.int 1), some (.int v2), some (.int v3)], [], st q4.2 hs, 0, 0))
            refine ⟨fun hc => hX _ ?_, fun hc => hX _ ?_⟩
            · clear hP hX hk P' X cal
              rw [if_pos hc] at hl
              refine Wp.stepsG 4 (fun cal X P' hk hX hP => ?_)
              show X (8, [some (.ref 60), some (.int 1), some (.int 0), some (.int (v3 + 1))], [], st q4.2 hs, 0, 0)
              refine hX _ ?_
              exact (ih 0 (v3 + 1) q4.2 q hl ct)
            · clear hP hX hk P' X cal
              rw [if_neg hc] at hl
              refine Wp.stepsG 5 (fun cal X P' hk hX hP => ?_)
              show X (8, [some (.ref 60), some (.int 1), some (.int 1), some (.int (v3 + 1))], [], st q4.2 hs, 0, 0)
              refine hX _ ?_
              exact (ih 1 (v3 + 1) q4.2 q hl ct)
set_option maxRecDepth 20000 in
set_option maxHeartbeats 4000000 in
theorem e_X5_learnBoth_d1_60 (d : Nat) (S : St) (hs : List Hr) (v : Int32 × St) (hr : r_X5_learnBoth_d1 S 60 = some v) (P : Option Value → Hp → Prop) (h : P (some (.int v.1)) (st v.2 hs)) : Ev (d + 13) ix_X5_learnBoth 0 0 [.ref 60, .int 1] (st S hs) P := by
  refine Ev.intro (M := mi_X5_learnBoth) rfl (Nat.le_of_ble_eq_true rfl) ?_
  unfold r_X5_learnBoth_d1 at hr
  refine Wp.stepsG 3 (fun cal X P' hk hX hP => ?_)
  show kcall cal ix_X5_learnPart [.ref 60, .int 1] (st S hs) [] 0 0 (0, 0) (fun v σ' c' m' => X (5, [some (.ref 60), some (.int 1), none, none], v.toList ++ [], σ', c', m'))
  obtain ⟨q1, hq1, hr⟩ := bd_some hr
  refine kcall0 rfl (hk _ _ _ _ _ _ (e_X5_learnPart_d1_60 (d + 0) S hs q1 hq1 _ ?_))
  show X (5, [some (.ref 60), some (.int 1), none, none], [.int q1.1], st q1.2 hs, 0, 0)
  refine hX _ ?_
  clear hP hX hk P' X cal
  refine Wp.stepsG 3 (fun cal X P' hk hX hP => ?_)
  show X (8, [some (.ref 60), some (.int 1), some (.int q1.1), some (.int 0)], [], st q1.2 hs, 0, 0)
  refine hX _ ?_
  clear hP hX hk P' X cal
  obtain ⟨q5, hq5, hr⟩ := bd_some hr
  refine (e_lp_X5_learnBoth_d1_8_60 d hs P _ q1.1 0 q1.2 q5 hq5 ?_)
  obtain ⟨hb, hr⟩ := gd_some hr
  have hr := Option.some.inj hr
  subst hr
  refine Wp.stepsG 2 (fun cal X P' hk hX hP => ?_)
  exact ⟨hb, hP _ _ h⟩
set_option maxRecDepth 20000 in
set_option maxHeartbeats 4000000 in
theorem e_lp_X5_learnEither_d1_8_60 (d : Nat) (hs : List Hr) (P : Option Value → Hp → Prop) : ∀ (n : Nat) (v2 : Int32) (v3 : Int32) (S : St) (q : Int32 × St), lp_X5_learnEither_d1_8 60 n v2 v3 S = some q → (WM mi_X5_learnEither (d + 13) P 57 [some (.ref 60), some (.int 1), some (.int q.1), none] [] (st q.2 hs)) → WM mi_X5_learnEither (d + 13) P 8 [some (.ref 60), some (.int 1), some (.int v2), some (.int v3)] [] (st S hs) := by
  intro n
  induction n with
  | zero =>
    intro v2 v3 S q hl
    cases hl
  | succ n ih =>
    intro v2 v3 S q hl ct
    rw [lp_X5_learnEither_d1_8] at hl
    refine Wp.stepsG 3 (fun cal X P' hk hX hP => ?_)
    show (100 ≤ v3 → X (57, [some (.ref 60), some (.int 1), some (.int v2), some (.int v3)], [], st S hs, 0, 0)) ∧ (¬ 100 ≤ v3 → X (14, [some (.ref 60), some (.int 1), some (.int v2), some (.int v3)], [], st S hs, 0, 0))
    refine ⟨fun hc => hX _ ?_, fun hc => hX _ ?_⟩
    · clear hP hX hk P' X cal
      rw [if_pos hc] at hl
      have hl := Option.some.inj hl
      subst hl
      exact Wp.weak (leL.k (leL.k (leL.k (leL.n leL.z)))) (ct)
    · clear hP hX hk P' X cal
      rw [if_neg hc] at hl
      refine Wp.stepsG 2 (fun cal X P' hk hX hP => ?_)
      show (v2 = 0 → X (57, [some (.ref 60), some (.int 1), some (.int v2), some (.int v3)], [], st S hs, 0, 0)) ∧ (¬ v2 = 0 → X (18, [some (.ref 60), some (.int 1), some (.int v2), some (.int v3)], [], st S hs, 0, 0))
      refine ⟨fun hc => hX _ ?_, fun hc => hX _ ?_⟩
      · clear hP hX hk P' X cal
        rw [if_pos hc] at hl
        have hl := Option.some.inj hl
        subst hl
        exact Wp.weak (leL.k (leL.k (leL.k (leL.n leL.z)))) (ct)
      · clear hP hX hk P' X cal
        rw [if_neg hc] at hl
        refine Wp.stepsG 3 (fun cal X P' hk hX hP => ?_)
        show kcall cal ix_X5_goBy [.ref 60, .int 124] (st S hs) [] 0 0 (0, 0) (fun v σ' c' m' => X (24, [some (.ref 60), some (.int 1), some (.int v2), some (.int v3)], v.toList ++ [], σ', c', m'))
        obtain ⟨q2, hq2, hl⟩ := bd_some hl
        refine kcall0 rfl (hk _ _ _ _ _ _ (e_X5_goBy_60 (d + 11) S hs 124 q2 hq2 _ ?_))
        show X (24, [some (.ref 60), some (.int 1), some (.int v2), some (.int v3)], [.int q2.1], st q2.2 hs, 0, 0)
        refine hX _ ?_
        clear hP hX hk P' X cal
        refine Wp.stepsG 1 (fun cal X P' hk hX hP => ?_)
        show (q2.1 = 0 → X (57, [some (.ref 60), some (.int 1), some (.int v2), some (.int v3)], [], st q2.2 hs, 0, 0)) ∧ (¬ q2.1 = 0 → X (27, [some (.ref 60), some (.int 1), some (.int v2), some (.int v3)], [], st q2.2 hs, 0, 0))
        refine ⟨fun hc => hX _ ?_, fun hc => hX _ ?_⟩
        · clear hP hX hk P' X cal
          rw [if_pos hc] at hl
          have hl := Option.some.inj hl
          subst hl
          exact Wp.weak (leL.k (leL.k (leL.k (leL.n leL.z)))) (ct)
        · clear hP hX hk P' X cal
          rw [if_neg hc] at hl
          refine Wp.stepsG 3 (fun cal X P' hk hX hP => ?_)
          show kcall cal ix_X5_learnBoth [.ref 60, .int 1] (st q2.2 hs) [] 0 0 (0, 0) (fun v σ' c' m' => X (32, [some (.ref 60), some (.int 1), some (.int v2), some (.int v3)], v.toList ++ [], σ', c', m'))
          obtain ⟨q3, hq3, hl⟩ := bd_some hl
          refine kcall0 rfl (hk _ _ _ _ _ _ (e_X5_learnBoth_d1_60 (d + 0) q2.2 hs q3 hq3 _ ?_))
          show X (32, [some (.ref 60), some (.int 1), some (.int v2), some (.int v3)], [.int q3.1], st q3.2 hs, 0, 0)
          refine hX _ ?_
          clear hP hX hk P' X cal
          refine Wp.stepsG 1 (fun cal X P' hk hX hP => ?_)
          show (q3.1 = 0 → X (49, [some (.ref 60), some (.int 1), some (.int v2), some (.int v3)], [], st q3.2 hs, 0, 0)) ∧ (¬ q3.1 = 0 → X (35, [some (.ref 60), some (.int 1), some (.int v2), some (.int v3)], [], st q3.2 hs, 0, 0))
          refine ⟨fun hc => hX _ ?_, fun hc => hX _ ?_⟩
          · clear hP hX hk P' X cal
            rw [if_pos hc] at hl
            refine Wp.stepsG 4 (fun cal X P' hk hX hP => ?_)
            show X (8, [some (.ref 60), some (.int 1), some (.int 0), some (.int (v3 + 1))], [], st q3.2 hs, 0, 0)
            refine hX _ ?_
            exact (ih 0 (v3 + 1) q3.2 q hl ct)
          · clear hP hX hk P' X cal
            rw [if_neg hc] at hl
            refine Wp.stepsG 4 (fun cal X P' hk hX hP => ?_)
            show kcall cal ix_X5_add [.ref 60, .int 20, .int 0] (st q3.2 hs) [] 0 0 (0, 0) (fun v σ' c' m' => X (42, [some (.ref 60), some (.int 1), some (.int v2), some (.int v3)], v.toList ++ [], σ', c', m'))
            obtain ⟨q4, hq4, hl⟩ := bd_some hl
            refine kcall0 rfl (hk _ _ _ _ _ _ (e_X5_add_60 (d + 12) q3.2 hs 20 0 q4 hq4 _ ?_))
            show X (42, [some (.ref 60), some (.int 1), some (.int v2), some (.int v3)], [.int q4.1], st q4.2 hs, 0, 0)
            refine hX _ ?_
            clear hP hX hk P' X cal
            refine Wp.stepsG 1 (fun cal X P' hk hX hP => ?_)
            show (q4.1 = 0 → X (49, [some (.ref 60), some (.int 1), some (.int v2), some (.int v3)], [], st q4.2 hs, 0, 0)) ∧ (¬ q4.1 = 0 → X (45, [some (.ref 60), some (.int 1), some (.int v2), some (.int v3)], [], st q4.2 hs, 0, 0))
            refine ⟨fun hc => hX _ ?_, fun hc => hX _ ?_⟩
            · clear hP hX hk P' X cal
              rw [if_pos hc] at hl
              refine Wp.stepsG 4 (fun cal X P' hk hX hP => ?_)
              show X (8, [some (.ref 60), some (.int 1), some (.int 0), some (.int (v3 + 1))], [], st q4.2 hs, 0, 0)
              refine hX _ ?_
              exact (ih 0 (v3 + 1) q4.2 q hl ct)
            · clear hP hX hk P' X cal
              rw [if_neg hc] at hl
              refine Wp.stepsG 5 (fun cal X P' hk hX hP => ?_)
              show X (8, [some (.ref 60), some (.int 1), some (.int 1), some (.int (v3 + 1))], [], st q4.2 hs, 0, 0)
              refine hX _ ?_
              exact (ih 1 (v3 + 1) q4.2 q hl ct)
set_option maxRecDepth 20000 in
set_option maxHeartbeats 4000000 in
theorem e_X5_learnEither_d1_60 (d : Nat) (S : St) (hs : List Hr) (v : Int32 × St) (hr : r_X5_learnEither_d1 S 60 = some v) (P : Option Value → Hp → Prop) (h : P (some (.int v.1)) (st v.2 hs)) : Ev (d + 14) ix_X5_learnEither 0 0 [.ref 60, .int 1] (st S hs) P := by
  refine Ev.intro (M := mi_X5_learnEither) rfl (Nat.le_of_ble_eq_true rfl) ?_
  unfold r_X5_learnEither_d1 at hr
  refine Wp.stepsG 3 (fun cal X P' hk hX hP => ?_)
  show kcall cal ix_X5_learnBoth [.ref 60, .int 1] (st S hs) [] 0 0 (0, 0) (fun v σ' c' m' => X (5, [some (.ref 60), some (.int 1), none, none], v.toList ++ [], σ', c', m'))
  obtain ⟨q1, hq1, hr⟩ := bd_some hr
  refine kcall0 rfl (hk _ _ _ _ _ _ (e_X5_learnBoth_d1_60 (d + 0) S hs q1 hq1 _ ?_))
  show X (5, [some (.ref 60), some (.int 1), none, none], [.int q1.1], st q1.2 hs, 0, 0)
  refine hX _ ?_
  clear hP hX hk P' X cal
  refine Wp.stepsG 3 (fun cal X P' hk hX hP => ?_)
  show X (8, [some (.ref 60), some (.int 1), some (.int q1.1), some (.int 0)], [], st q1.2 hs, 0, 0)
  refine hX _ ?_
  clear hP hX hk P' X cal
  obtain ⟨q5, hq5, hr⟩ := bd_some hr
  refine (e_lp_X5_learnEither_d1_8_60 d hs P _ q1.1 0 q1.2 q5 hq5 ?_)
  obtain ⟨hb, hr⟩ := gd_some hr
  have hr := Option.some.inj hr
  subst hr
  refine Wp.stepsG 2 (fun cal X P' hk hX hP => ?_)
  exact ⟨hb, hP _ _ h⟩
set_option maxRecDepth 20000 in
set_option maxHeartbeats 4000000 in
theorem e_X5_learnPart_d0_60 (d : Nat) (S : St) (hs : List Hr) (v : Int32 × St) (hr : r_X5_learnPart_d0 S 60 = some v) (P : Option Value → Hp → Prop) (h : P (some (.int v.1)) (st v.2 hs)) : Ev (d + 15) ix_X5_learnPart 0 0 [.ref 60, .int 0] (st S hs) P := by
  refine Ev.intro (M := mi_X5_learnPart) rfl (Nat.le_of_ble_eq_true rfl) ?_
  unfold r_X5_learnPart_d0 at hr
  refine Wp.stepsG 4 (fun cal X P' hk hX hP => ?_)
  show kcall cal ix_X5_signAt [.ref 60, .int (S.1 60 7)] (st S hs) [] 0 0 (0, 0) (fun v σ' c' m' => X (8, [some (.ref 60), some (.int 0), none, none, none, none], v.toList ++ [], σ', c', m'))
  obtain ⟨q1, hq1, hr⟩ := bd_some hr
  refine kcall0 rfl (hk _ _ _ _ _ _ (e_X5_signAt_60 (d + 13) S hs (S.1 60 7) q1 hq1 _ ?_))
  show X (8, [some (.ref 60), some (.int 0), none, none, none, none], [.int q1], st S hs, 0, 0)
  refine hX _ ?_
  clear hP hX hk P' X cal
  refine Wp.stepsG 4 (fun cal X P' hk hX hP => ?_)
  show (q1 = 33 → X (21, [some (.ref 60), some (.int 0), some (.int q1), none, none, none], [], st S hs, 0, 0)) ∧ (¬ q1 = 33 → X (15, [some (.ref 60), some (.int 0), some (.int q1), none, none, none], [], st S hs, 0, 0))
  refine ⟨fun hc => hX _ ?_, fun hc => hX _ ?_⟩
  · clear hP hX hk P' X cal
    rw [if_pos hc] at hr
    refine Wp.stepsG 3 (fun cal X P' hk hX hP => ?_)
    show ((0 : Int32) < 4 → X (28, [some (.ref 60), some (.int 0), some (.int q1), none, none, none], [], st S hs, 0, 0)) ∧ (¬ (0 : Int32) < 4 → X (26, [some (.ref 60), some (.int 0), some (.int q1), none, none, none], [], st S hs, 0, 0))
    refine ⟨fun _ => hX _ ?_, fun hc => absurd hc (by decide)⟩
    clear hP hX hk P' X cal
    refine Wp.stepsG 9 (fun cal X P' hk hX hP => ?_)
    show (¬ q1 = 33 → X (72, [some (.ref 60), some (.int 0), some (.int q1), none, none, none], [], st (sI S 60 7 ((S.1 60 7) + 1)) hs, 0, 0)) ∧ (q1 = 33 → X (44, [some (.ref 60), some (.int 0), some (.int q1), none, none, none], [], st (sI S 60 7 ((S.1 60 7) + 1)) hs, 0, 0))
    refine ⟨fun hc => hX _ ?_, fun hc => hX _ ?_⟩
    · clear hP hX hk P' X cal
      rw [if_neg hc] at hr
      refine Wp.stepsG 5 (fun cal X P' hk hX hP => ?_)
      show kcall cal ix_X5_learnEither [.ref 60, .int 1] (st (sI S 60 7 ((S.1 60 7) + 1)) hs) [] 0 0 (0, 0) (fun v σ' c' m' => X (79, [some (.ref 60), some (.int 0), some (.int q1), none, none, none], v.toList ++ [], σ', c', m'))
      obtain ⟨q2, hq2, hr⟩ := bd_some hr
      refine kcall0 rfl (hk _ _ _ _ _ _ (e_X5_learnEither_d1_60 (d + 0) (sI S 60 7 ((S.1 60 7) + 1)) hs q2 hq2 _ ?_))
      show X (79, [some (.ref 60), some (.int 0), some (.int q1), none, none, none], [.int q2.1], st q2.2 hs, 0, 0)
      refine hX _ ?_
      clear hP hX hk P' X cal
      refine Wp.stepsG 1 (fun cal X P' hk hX hP => ?_)
      show (q2.1 = 0 → X (95, [some (.ref 60), some (.int 0), some (.int q1), none, none, none], [], st q2.2 hs, 0, 0)) ∧ (¬ q2.1 = 0 → X (82, [some (.ref 60), some (.int 0), some (.int q1), none, none, none], [], st q2.2 hs, 0, 0))
      refine ⟨fun hc => hX _ ?_, fun hc => hX _ ?_⟩
      · clear hP hX hk P' X cal
        rw [if_pos hc] at hr
        have hr := Option.some.inj hr
        subst hr
        refine Wp.stepsG 2 (fun cal X P' hk hX hP => ?_)
        exact ⟨Or.inl rfl, hP _ _ h⟩
      · clear hP hX hk P' X cal
        rw [if_neg hc] at hr
        refine Wp.stepsG 3 (fun cal X P' hk hX hP => ?_)
        show kcall cal ix_X5_goBy [.ref 60, .int 41] (st q2.2 hs) [] 0 0 (0, 0) (fun v σ' c' m' => X (88, [some (.ref 60), some (.int 0), some (.int q1), none, none, none], v.toList ++ [], σ', c', m'))
        obtain ⟨q3, hq3, hr⟩ := bd_some hr
        refine kcall0 rfl (hk _ _ _ _ _ _ (e_X5_goBy_60 (d + 12) q2.2 hs 41 q3 hq3 _ ?_))
        show X (88, [some (.ref 60), some (.int 0), some (.int q1), none, none, none], [.int q3.1], st q3.2 hs, 0, 0)
        refine hX _ ?_
        clear hP hX hk P' X cal
        refine Wp.stepsG 1 (fun cal X P' hk hX hP => ?_)
        show (q3.1 = 0 → X (95, [some (.ref 60), some (.int 0), some (.int q1), none, none, none], [], st q3.2 hs, 0, 0)) ∧ (¬ q3.1 = 0 → X (91, [some (.ref 60), some (.int 0), some (.int q1), none, none, none], [], st q3.2 hs, 0, 0))
        refine ⟨fun hc => hX _ ?_, fun hc => hX _ ?_⟩
        · clear hP hX hk P' X cal
          rw [if_pos hc] at hr
          have hr := Option.some.inj hr
          subst hr
          refine Wp.stepsG 2 (fun cal X P' hk hX hP => ?_)
          exact ⟨Or.inl rfl, hP _ _ h⟩
        · clear hP hX hk P' X cal
          rw [if_neg hc] at hr
          have hr := Option.some.inj hr
          subst hr
          refine Wp.stepsG 3 (fun cal X P' hk hX hP => ?_)
          exact ⟨Or.inr rfl, hP _ _ h⟩
    · clear hP hX hk P' X cal
      rw [if_pos hc] at hr
      refine Wp.stepsG 5 (fun cal X P' hk hX hP => ?_)
      show kcall cal ix_X5_learnPart [.ref 60, .int 1] (st (sI S 60 7 ((S.1 60 7) + 1)) hs) [] 0 0 (0, 0) (fun v σ' c' m' => X (51, [some (.ref 60), some (.int 0), some (.int q1), none, none, none], v.toList ++ [], σ', c', m'))
      obtain ⟨q4, hq4, hr⟩ := bd_some hr
      refine kcall0 rfl (hk _ _ _ _ _ _ (e_X5_learnPart_d1_60 (d + 2) (sI S 60 7 ((S.1 60 7) + 1)) hs q4 hq4 _ ?_))
      show X (51, [some (.ref 60), some (.int 0), some (.int q1), none, none, none], [.int q4.1], st q4.2 hs, 0, 0)
      refine hX _ ?_
      clear hP hX hk P' X cal
      refine Wp.stepsG 1 (fun cal X P' hk hX hP => ?_)
      show (q4.1 = 0 → X (68, [some (.ref 60), some (.int 0), some (.int q1), none, none, none], [], st q4.2 hs, 0, 0)) ∧ (¬ q4.1 = 0 → X (54, [some (.ref 60), some (.int 0), some (.int q1), none, none, none], [], st q4.2 hs, 0, 0))
      refine ⟨fun hc => hX _ ?_, fun hc => hX _ ?_⟩
      · clear hP hX hk P' X cal
        rw [if_pos hc] at hr
        have hr := Option.some.inj hr
        subst hr
        refine Wp.stepsG 3 (fun cal X P' hk hX hP => ?_)
        exact ⟨Or.inl rfl, hP _ _ h⟩
      · clear hP hX hk P' X cal
        rw [if_neg hc] at hr
        refine Wp.stepsG 4 (fun cal X P' hk hX hP => ?_)
        show kcall cal ix_X5_add [.ref 60, .int 18, .int 0] (st q4.2 hs) [] 0 0 (0, 0) (fun v σ' c' m' => X (61, [some (.ref 60), some (.int 0), some (.int q1), none, none, none], v.toList ++ [], σ', c', m'))
        obtain ⟨q5, hq5, hr⟩ := bd_some hr
        refine kcall0 rfl (hk _ _ _ _ _ _ (e_X5_add_60 (d + 13) q4.2 hs 18 0 q5 hq5 _ ?_))
        show X (61, [some (.ref 60), some (.int 0), some (.int q1), none, none, none], [.int q5.1], st q5.2 hs, 0, 0)
        refine hX _ ?_
        clear hP hX hk P' X cal
        refine Wp.stepsG 1 (fun cal X P' hk hX hP => ?_)
        show (q5.1 = 0 → X (68, [some (.ref 60), some (.int 0), some (.int q1), none, none, none], [], st q5.2 hs, 0, 0)) ∧ (¬ q5.1 = 0 → X (64, [some (.ref 60), some (.int 0), some (.int q1), none, none, none], [], st q5.2 hs, 0, 0))
        refine ⟨fun hc => hX _ ?_, fun hc => hX _ ?_⟩
        · clear hP hX hk P' X cal
          rw [if_pos hc] at hr
          have hr := Option.some.inj hr
          subst hr
          refine Wp.stepsG 3 (fun cal X P' hk hX hP => ?_)
          exact ⟨Or.inl rfl, hP _ _ h⟩
        · clear hP hX hk P' X cal
          rw [if_neg hc] at hr
          have hr := Option.some.inj hr
          subst hr
          refine Wp.stepsG 3 (fun cal X P' hk hX hP => ?_)
          exact ⟨Or.inr rfl, hP _ _ h⟩
  · clear hP hX hk P' X cal
    rw [if_neg hc] at hr
    refine Wp.stepsG 3 (fun cal X P' hk hX hP => ?_)
    show (¬ q1 = 40 → X (97, [some (.ref 60), some (.int 0), some (.int q1), none, none, none], [], st S hs, 0, 0)) ∧ (q1 = 40 → X (21, [some (.ref 60), some (.int 0), some (.int q1), none, none, none], [], st S hs, 0, 0))
    refine ⟨fun hc => hX _ ?_, fun hc => hX _ ?_⟩
    · clear hP hX hk P' X cal
      rw [if_neg hc] at hr
      refine Wp.stepsG 3 (fun cal X P' hk hX hP => ?_)
      show kcall cal ix_X5_goByOneOf [.ref 60, .ref 1] (st S hs) [] 0 0 (0, 0) (fun v σ' c' m' => X (103, [some (.ref 60), some (.int 0), some (.int q1), none, none, none], v.toList ++ [], σ', c', m'))
      obtain ⟨q6, hq6, hr⟩ := bd_some hr
      refine kcall0 rfl (hk _ _ _ _ _ _ (e_X5_goByOneOf_1_60 (d + 12) S hs q6 hq6 _ ?_))
      show X (103, [some (.ref 60), some (.int 0), some (.int q1), none, none, none], [.int q6.1], st q6.2 hs, 0, 0)
      refine hX _ ?_
      clear hP hX hk P' X cal
      refine Wp.stepsG 3 (fun cal X P' hk hX hP => ?_)
      show (0 ≤ q6.1 → X (112, [some (.ref 60), some (.int 0), some (.int q1), some (.int q6.1), none, none], [], st q6.2 hs, 0, 0)) ∧ (¬ 0 ≤ q6.1 → X (108, [some (.ref 60), some (.int 0), some (.int q1), some (.int q6.1), none, none], [], st q6.2 hs, 0, 0))
      refine ⟨fun hc => hX _ ?_, fun hc => hX _ ?_⟩
      · clear hP hX hk P' X cal
        rw [if_pos hc] at hr
        refine Wp.stepsG 3 (fun cal X P' hk hX hP => ?_)
        show kcall cal ix_X5_goByOneOf [.ref 60, .ref 2] (st q6.2 hs) [] 0 0 (0, 0) (fun v σ' c' m' => X (118, [some (.ref 60), some (.int 0), some (.int q1), some (.int q6.1), none, none], v.toList ++ [], σ', c', m'))
        obtain ⟨q7, hq7, hr⟩ := bd_some hr
        refine kcall0 rfl (hk _ _ _ _ _ _ (e_X5_goByOneOf_2_60 (d + 12) q6.2 hs q7 hq7 _ ?_))
        show X (118, [some (.ref 60), some (.int 0), some (.int q1), some (.int q6.1), none, none], [.int q7.1], st q7.2 hs, 0, 0)
        refine hX _ ?_
        clear hP hX hk P' X cal
        refine Wp.stepsG 3 (fun cal X P' hk hX hP => ?_)
        show (0 ≤ q7.1 → X (129, [some (.ref 60), some (.int 0), some (.int q1), some (.int q6.1), some (.int q7.1), none], [], st q7.2 hs, 0, 0)) ∧ (¬ 0 ≤ q7.1 → X (125, [some (.ref 60), some (.int 0), some (.int q1), some (.int q6.1), some (.int q7.1), none], [], st q7.2 hs, 0, 0))
        refine ⟨fun hc => hX _ ?_, fun hc => hX _ ?_⟩
        · clear hP hX hk P' X cal
          rw [if_pos hc] at hr
          refine Wp.stepsG 2 (fun cal X P' hk hX hP => ?_)
          show kcall cal ix_X5_goByNumber [.ref 60] (st q7.2 hs) [] 0 0 (0, 0) (fun v σ' c' m' => X (133, [some (.ref 60), some (.int 0), some (.int q1), some (.int q6.1), some (.int q7.1), none], v.toList ++ [], σ', c', m'))
          obtain ⟨q8, hq8, hr⟩ := bd_some hr
          refine kcall0 rfl (hk _ _ _ _ _ _ (e_X5_goByNumber_60 (d + 12) q7.2 hs q8 hq8 _ ?_))
          show X (133, [some (.ref 60), some (.int 0), some (.int q1), some (.int q6.1), some (.int q7.1), none], [.int q8.1], st q8.2 hs, 0, 0)
          refine hX _ ?_
          clear hP hX hk P' X cal
          refine Wp.stepsG 3 (fun cal X P' hk hX hP => ?_)
          show (q8.1 < 0 → X (159, [some (.ref 60), some (.int 0), some (.int q1), some (.int q6.1), some (.int q7.1), some (.int q8.1)], [], st q8.2 hs, 0, 0)) ∧ (¬ q8.1 < 0 → X (140, [some (.ref 60), some (.int 0), some (.int q1), some (.int q6.1), some (.int q7.1), some (.int q8.1)], [], st q8.2 hs, 0, 0))
          refine ⟨fun hc => hX _ ?_, fun hc => hX _ ?_⟩
          · clear hP hX hk P' X cal
            rw [if_pos hc] at hr
            have hr := Option.some.inj hr
            subst hr
            refine Wp.stepsG 2 (fun cal X P' hk hX hP => ?_)
            exact ⟨Or.inl rfl, hP _ _ h⟩
          · clear hP hX hk P' X cal
            rw [if_neg hc] at hr
            refine Wp.stepsG 8 (fun cal X P' hk hX hP => ?_)
            show kcall cal ix_X5_add [.ref 60, .int (((3 : Int32) * q6.1) + q7.1), .int q8.1] (st q8.2 hs) [] 0 0 (0, 0) (fun v σ' c' m' => X (152, [some (.ref 60), some (.int 0), some (.int q1), some (.int q6.1), some (.int q7.1), some (.int q8.1)], v.toList ++ [], σ', c', m'))
            obtain ⟨q9, hq9, hr⟩ := bd_some hr
            refine kcall0 rfl (hk _ _ _ _ _ _ (e_X5_add_60 (d + 13) q8.2 hs (((3 : Int32) * q6.1) + q7.1) q8.1 q9 hq9 _ ?_))
            show X (152, [some (.ref 60), some (.int 0), some (.int q1), some (.int q6.1), some (.int q7.1), some (.int q8.1)], [.int q9.1], st q9.2 hs, 0, 0)
            refine hX _ ?_
            clear hP hX hk P' X cal
            refine Wp.stepsG 1 (fun cal X P' hk hX hP => ?_)
            show (q9.1 = 0 → X (159, [some (.ref 60), some (.int 0), some (.int q1), some (.int q6.1), some (.int q7.1), some (.int q8.1)], [], st q9.2 hs, 0, 0)) ∧ (¬ q9.1 = 0 → X (155, [some (.ref 60), some (.int 0), some (.int q1), some (.int q6.1), some (.int q7.1), some (.int q8.1)], [], st q9.2 hs, 0, 0))
            refine ⟨fun hc => hX _ ?_, fun hc => hX _ ?_⟩
            · clear hP hX hk P' X cal
              rw [if_pos hc] at hr
              have hr := Option.some.inj hr
              subst hr
              refine Wp.stepsG 2 (fun cal X P' hk hX hP => ?_)
              exact ⟨Or.inl rfl, hP _ _ h⟩
            · clear hP hX hk P' X cal
              rw [if_neg hc] at hr
              have hr := Option.some.inj hr
              subst hr
              refine Wp.stepsG 3 (fun cal X P' hk hX hP => ?_)
              exact ⟨Or.inr rfl, hP _ _ h⟩
        · clear hP hX hk P' X cal
          rw [if_neg hc] at hr
          refine Wp.stepsG 5 (fun cal X P' hk hX hP => ?_)
          show (((-1) : Int32) < 0 → X (159, [some (.ref 60), some (.int 0), some (.int q1), some (.int q6.1), some (.int q7.1), some (.int (-1))], [], st q7.2 hs, 0, 0)) ∧ (¬ ((-1) : Int32) < 0 → X (140, [some (.ref 60), some (.int 0), some (.int q1), some (.int q6.1), some (.int q7.1), some (.int (-1))], [], st q7.2 hs, 0, 0))
          refine ⟨fun _ => hX _ ?_, fun hc => absurd hc (by decide)⟩
          clear hP hX hk P' X cal
          have hr := Option.some.inj hr
          subst hr
          refine Wp.stepsG 2 (fun cal X P' hk hX hP => ?_)
          exact ⟨Or.inl rfl, hP _ _ h⟩
      · clear hP hX hk P' X cal
        rw [if_neg hc] at hr
        refine Wp.stepsG 5 (fun cal X P' hk hX hP => ?_)
        show (0 ≤ ((-1) : Int32) → X (129, [some (.ref 60), some (.int 0), some (.int q1), some (.int q6.1), some (.int (-1)), none], [], st q6.2 hs, 0, 0)) ∧ (¬ 0 ≤ ((-1) : Int32) → X (125, [some (.ref 60), some (.int 0), some (.int q1), some (.int q6.1), some (.int (-1)), none], [], st q6.2 hs, 0, 0))
        refine ⟨fun hc => absurd hc (by decide), fun _ => hX _ ?_⟩
        clear hP hX hk P' X cal
        refine Wp.stepsG 5 (fun cal X P' hk hX hP => ?_)
        show (((-1) : Int32) < 0 → X (159, [some (.ref 60), some (.int 0), some (.int q1), some (.int q6.1), some (.int (-1)), some (.int (-1))], [], st q6.2 hs, 0, 0)) ∧ (¬ ((-1) : Int32) < 0 → X (140, [some (.ref 60), some (.int 0), some (.int q1), some (.int q6.1), some (.int (-1)), some (.int (-1))], [], st q6.2 hs, 0, 0))
        refine ⟨fun _ => hX _ ?_, fun hc => absurd hc (by decide)⟩
        clear hP hX hk P' X cal
        have hr := Option.some.inj hr
        subst hr
        refine Wp.stepsG 2 (fun cal X P' hk hX hP => ?_)
        exact ⟨Or.inl rfl, hP _ _ h⟩
    · clear hP hX hk P' X cal
      rw [if_pos hc] at hr
      refine Wp.stepsG 3 (fun cal X P' hk hX hP => ?_)
      show ((0 : Int32) < 4 → X (28, [some (.ref 60), some (.int 0), some (.int q1), none, none, none], [], st S hs, 0, 0)) ∧ (¬ (0 : Int32) < 4 → X (26, [some (.ref 60), some (.int 0), some (.int q1), none, none, none], [], st S hs, 0, 0))
      refine ⟨fun _ => hX _ ?_, fun hc => absurd hc (by decide)⟩
      clear hP hX hk P' X cal
      refine Wp.stepsG 9 (fun cal X P' hk hX hP => ?_)
      show (¬ q1 = 33 → X (72, [some (.ref 60), some (.int 0), some (.int q1), none, none, none], [], st (sI S 60 7 ((S.1 60 7) + 1)) hs, 0, 0)) ∧ (q1 = 33 → X (44, [some (.ref 60), some (.int 0), some (.int q1), none, none, none], [], st (sI S 60 7 ((S.1 60 7) + 1)) hs, 0, 0))
      refine ⟨fun hc => hX _ ?_, fun hc => hX _ ?_⟩
      · clear hP hX hk P' X cal
        rw [if_neg hc] at hr
        refine Wp.stepsG 5 (fun cal X P' hk hX hP => ?_)
        show kcall cal ix_X5_learnEither [.ref 60, .int 1] (st (sI S 60 7 ((S.1 60 7) + 1)) hs) [] 0 0 (0, 0) (fun v σ' c' m' => X (79, [some (.ref 60), some (.int 0), some (.int q1), none, none, none], v.toList ++ [], σ', c', m'))
        obtain ⟨q10, hq10, hr⟩ := bd_some hr
        refine kcall0 rfl (hk _ _ _ _ _ _ (e_X5_learnEither_d1_60 (d + 0) (sI S 60 7 ((S.1 60 7) + 1)) hs q10 hq10 _ ?_))
        show X (79, [some (.ref 60), some (.int 0), some (.int q1), none, none, none], [.int q10.1], st q10.2 hs, 0, 0)
        refine hX _ ?_
        clear hP hX hk P' X cal
        refine Wp.stepsG 1 (fun cal X P' hk hX hP => ?_)
        show (q10.1 = 0 → X (95, [some (.ref 60), some (.int 0), some (.int q1), none, none, none], [], st q10.2 hs, 0, 0)) ∧ (¬ q10.1 = 0 → X (82, [some (.ref 60), some (.int 0), some (.int q1), none, none, none], [], st q10.2 hs, 0, 0))
        refine ⟨fun hc => hX _ ?_, fun hc => hX _ ?_⟩
        · clear hP hX hk P' X cal
          rw [if_pos hc] at hr
          have hr := Option.some.inj hr
          subst hr
          refine Wp.stepsG 2 (fun cal X P' hk hX hP => ?_)
          exact ⟨Or.inl rfl, hP _ _ h⟩
        · clear hP hX hk P' X cal
          rw [if_neg hc] at hr
          refine Wp.stepsG 3 (fun cal X P' hk hX hP => ?_)
          show kcall cal ix_X5_goBy [.ref 60, .int 41] (st q10.2 hs) [] 0 0 (0, 0) (fun v σ' c' m' => X (88, [some (.ref 60), some (.int 0), some (.int q1), none, none, none], v.toList ++ [], σ', c', m'))
          obtain ⟨q11, hq11, hr⟩ := bd_some hr
          refine kcall0 rfl (hk _ _ _ _ _ _ (e_X5_goBy_60 (d + 12) q10.2 hs 41 q11 hq11 _ ?_))
          show X (88, [some (.ref 60), some (.int 0), some (.int q1), none, none, none], [.int q11.1], st q11.2 hs, 0, 0)
          refine hX _ ?_
          clear hP hX hk P' X cal
          refine Wp.stepsG 1 (fun cal X P' hk hX hP => ?_)
          show (q11.1 = 0 → X (95, [some (.ref 60), some (.int 0), some (.int q1), none, none, none], [], st q11.2 hs, 0, 0)) ∧ (¬ q11.1 = 0 → X (91, [some (.ref 60), some (.int 0), some (.int q1), none, none, none], [], st q11.2 hs, 0, 0))
          refine ⟨fun hc => hX _ ?_, fun hc => hX _ ?_⟩
          · clear hP hX hk P' X cal
            rw [if_pos hc] at hr
            have hr := Option.some.inj hr
            subst hr
            refine Wp.stepsG 2 (fun cal X P' hk hX hP => ?_)
            exact ⟨Or.inl rfl, hP _ _ h⟩
          · clear hP hX hk P' X cal
            rw [if_neg hc] at hr
            have hr := Option.some.inj hr
            subst hr
            refine Wp.stepsG 3 (fun cal X P' hk hX hP => ?_)
            exact ⟨Or.inr rfl, hP _ _ h⟩
      · clear hP hX hk P' X cal
        rw [if_pos hc] at hr
        refine Wp.stepsG 5 (fun cal X P' hk hX hP => ?_)
        show kcall cal ix_X5_learnPart [.ref 60, .int 1] (st (sI S 60 7 ((S.1 60 7) + 1)) hs) [] 0 0 (0, 0) (fun v σ' c' m' => X (51, [some (.ref 60), some (.int 0), some (.int q1), none, none, none], v.toList ++ [], σ', c', m'))
        obtain ⟨q12, hq12, hr⟩ := bd_some hr
        refine kcall0 rfl (hk _ _ _ _ _ _ (e_X5_learnPart_d1_60 (d + 2) (sI S 60 7 ((S.1 60 7) + 1)) hs q12 hq12 _ ?_))
        show X (51, [some (.ref 60), some (.int 0), some (.int q1), none, none, none], [.int q12.1], st q12.2 hs, 0, 0)
        refine hX _ ?_
        clear hP hX hk P' X cal
        refine Wp.stepsG 1 (fun cal X P' hk hX hP => ?_)
        show (q12.1 = 0 → X (68, [some (.ref 60), some (.int 0), some (.int q1), none, none, none], [], st q12.2 hs, 0, 0)) ∧ (¬ q12.1 = 0 → X (54, [some (.ref 60), some (.int 0), some (.int q1), none, none, none], [], st q12.2 hs, 0, 0))
        refine ⟨fun hc => hX _ ?_, fun hc => hX _ ?_⟩
        · clear hP hX hk P' X cal
          rw [if_pos hc] at hr
          have hr := Option.some.inj hr
          subst hr
          refine Wp.stepsG 3 (fun cal X P' hk hX hP => ?_)
          exact ⟨Or.inl rfl, hP _ _ h⟩
        · clear hP hX hk P' X cal
          rw [if_neg hc] at hr
          refine Wp.stepsG 4 (fun cal X P' hk hX hP => ?_)
          show kcall cal ix_X5_add [.ref 60, .int 18, .int 0] (st q12.2 hs) [] 0 0 (0, 0) (fun v σ' c' m' => X (61, [some (.ref 60), some (.int 0), some (.int q1), none, none, none], v.toList ++ [], σ', c', m'))
          obtain ⟨q13, hq13, hr⟩ := bd_some hr
          refine kcall0 rfl (hk _ _ _ _ _ _ (e_X5_add_60 (d + 13) q12.2 hs 18 0 q13 hq13 _ ?_))
          show X (61, [some (.ref 60), some (.int 0), some (.int q1), none, none, none], [.int q13.1], st q13.2 hs, 0, 0)
          refine hX _ ?_
          clear hP hX hk P' X cal
          refine Wp.stepsG 1 (fun cal X P' hk hX hP => ?_)
          show (q13.1 = 0 → X (68, [some (.ref 60), some (.int 0), some (.int q1), none, none, none], [], st q13.2 hs, 0, 0)) ∧ (¬ q13.1 = 0 → X (64, [some (.ref 60), some (.int 0), some (.int q1), none, none, none], [], st q13.2 hs, 0, 0))
          refine ⟨fun hc => hX _ ?_, fun hc => hX _ ?_⟩
          · clear hP hX hk P' X cal
            rw [if_pos hc] at hr
            have hr := Option.some.inj hr
            subst hr
            refine Wp.stepsG 3 (fun cal X P' hk hX hP => ?_)
            exact ⟨Or.inl rfl, hP _ _ h⟩
          · clear hP hX hk P' X cal
            rw [if_neg hc] at hr
            have hr := Option.some.inj hr
            subst hr
            refine Wp.stepsG 3 (fun cal X P' hk hX hP => ?_)
            exact ⟨Or.inr rfl, hP _ _ h⟩
set_option maxRecDepth 20000 in
set_option maxHeartbeats 4000000 in
theorem e_lp_X5_learnBoth_d0_8_60 (d : Nat) (hs : List Hr) (P : Option Value → Hp → Prop) : ∀ (n : Nat) (v2 : Int32) (v3 : Int32) (S : St) (q : Int32 × St), lp_X5_learnBoth_d0_8 60 n v2 v3 S = some q → (WM mi_X5_learnBoth (d + 15) P 57 [some (.ref 60), some (.int 0), some (.int q.1), none] [] (st q.2 hs)) → WM mi_X5_learnBoth (d + 15) P 8 [some (.ref 60), some (.int 0), some (.int v2), some (.int v3)] [] (st S hs) := by
  intro n
  induction n with
  | zero =>
    intro v2 v3 S q hl
    cases hl
  | succ n ih =>
    intro v2 v3 S q hl ct
    rw [lp_X5_learnBoth_d0_8] at hl
    refine Wp.stepsG 3 (fun cal X P' hk hX hP => ?_)
    show (100 ≤ v3 → X (57, [some (.ref 60), some (.int 0), some (.int v2), some (.int v3)], [], st S hs, 0, 0)) ∧ (¬ 100 ≤ v3 → X (14, [some (.ref 60), some (.int 0), some (.int v2), some (.int v3)], [], st S hs, 0, 0))
    refine ⟨fun hc => hX _ ?_, fun hc => hX _ ?_⟩
    · clear hP hX hk P' X cal
      rw [if_pos hc] at hl
      have hl := Option.some.inj hl
      subst hl
      exact Wp.weak (leL.k (leL.k (leL.k (leL.n leL.z)))) (ct)
    · clear hP hX hk P' X cal
      rw [if_neg hc] at hl
      refine Wp.stepsG 2 (fun cal X P' hk hX hP => ?_)
      show (v2 = 0 → X (57, [some (.ref 60), some (.int 0), some (.int v2), some (.int v3)], [], st S hs, 0, 0)) ∧ (¬ v2 = 0 → X (18, [some (.ref 60), some (.int 0), some (.int v2), some (.int v3)], [], st S hs, 0, 0))
      refine ⟨fun hc => hX _ ?_, fun hc => hX _ ?_⟩
      · clear hP hX hk P' X cal
        rw [if_pos hc] at hl
        have hl := Option.some.inj hl
        subst hl
        exact Wp.weak (leL.k (leL.k (leL.k (leL.n leL.z)))) (ct)
      · clear hP hX hk P' X cal
        rw [if_neg hc] at hl
        refine Wp.stepsG 3 (fun cal X P' hk hX hP => ?_)
        show kcall cal ix_X5_goBy [.ref 60, .int 38] (st S hs) [] 0 0 (0, 0) (fun v σ' c' m' => X (24, [some (.ref 60), some (.int 0), some (.int v2), some (.int v3)], v.toList ++ [], σ', c', m'))
        obtain ⟨q2, hq2, hl⟩ := bd_some hl
        refine kcall0 rfl (hk _ _ _ _ _ _ (e_X5_goBy_60 (d + 13) S hs 38 q2 hq2 _ ?_))
        show X (24, [some (.ref 60), some (.int 0), some (.int v2), some (.int v3)], [.int q2.1], st q2.2 hs, 0, 0)
        refine hX _ ?_
        clear hP hX hk P' X cal
        refine Wp.stepsG 1 (fun cal X P' hk hX hP => ?_)
        show (q2.1 = 0 → X (57, [some (.ref 60), some (.int 0), some (.int v2), some (.int v3)], [], st q2.2 hs, 0, 0)) ∧ (¬ q2.1 = 0 → X (27, [some (.ref 60), some (.int 0), some (.int v2), some (.int v3)], [], st q2.2 hs, 0, 0))
        refine ⟨fun hc => hX _ ?_, fun hc => hX _ ?_⟩
        · clear hP hX hk P' X cal
          rw [if_pos hc] at hl
          have hl := Option.some.inj hl
          subst hl
          exact Wp.weak (leL.k (leL.k (leL.k (leL.n leL.z)))) (ct)
        · clear hP hX hk P' X cal
          rw [if_neg hc] at hl
          refine Wp.stepsG 3 (fun cal X P' hk hX hP => ?_)
          show kcall cal ix_X5_learnPart [.ref 60, .int 0] (st q2.2 hs) [] 0 0 (0, 0) (fun v σ' c' m' => X (32, [some (.ref 60), some (.int 0), some (.int v2), some (.int v3)], v.toList ++ [], σ', c', m'))
          obtain ⟨q3, hq3, hl⟩ := bd_some hl
          refine kcall0 rfl (hk _ _ _ _ _ _ (e_X5_learnPart_d0_60 (d + 0) q2.2 hs q3 hq3 _ ?_))
          show X (32, [some (.ref 60), some (.int 0), some (.int v2), some (.int v3)], [.int q3.1], st q3.2 hs, 0, 0)
          refine hX _ ?_
          clear hP hX hk P' X cal
          refine Wp.stepsG 1 (fun cal X P' hk hX hP => ?_)
          show (q3.1 = 0 → X (49, [some (.ref 60), some (.int 0), some (.int v2), some (.int v3)], [], st q3.2 hs, 0, 0)) ∧ (¬ q3.1 = 0 → X (35, [some (.ref 60), some (.int 0), some (.int v2), some (.int v3)], [], st q3.2 hs, 0, 0))
          refine ⟨fun hc => hX _ ?_, fun hc => hX _ ?_⟩
          · clear hP hX hk P' X cal
            rw [if_pos hc] at hl
            refine Wp.stepsG 4 (fun cal X P' hk hX hP => ?_)
            show X (8, [some (.ref 60), some (.int 0), some (.int 0), some (.int (v3 + 1))], [], st q3.2 hs, 0, 0)
            refine hX _ ?_
            exact (ih 0 (v3 + 1) q3.2 q hl ct)
          · clear hP hX hk P' X cal
            rw [if_neg hc] at hl
            refine Wp.stepsG 4 (fun cal X P' hk hX hP => ?_)
            show kcall cal ix_X5_add [.ref 60, .int 19, .int 0] (st q3.2 hs) [] 0 0 (0, 0) (fun v σ' c' m' => X (42, [some (.ref 60), some (.int 0), some (.int v2), some (.int v3)], v.toList ++ [], σ', c', m'))
            obtain ⟨q4, hq4, hl⟩ := bd_some hl
            refine kcall0 rfl (hk _ _ _ _ _ _ (e_X5_add_60 (d + 14) q3.2 hs 19 0 q4 hq4 _ ?_))
            show X (42, [some (.ref 60), some (.int 0), some (.int v2), some (.int v3)], [.int q4.1], st q4.2 hs, 0, 0)
            refine hX _ ?_
            clear hP hX hk P' X cal
            refine Wp.stepsG 1 (fun cal X P' hk hX hP => ?_)
            show (q4.1 = 0 → X (49, [some (.ref 60), some (.int 0), some (.int v2), some (.int v3)], [], st q4.2 hs, 0, 0)) ∧ (¬ q4.1 = 0 → X (45, [some (.ref 60), some (.int 0), some (.int v2), some (.int v3)], [], st q4.2 hs, 0, 0))
            refine ⟨fun hc => hX _ ?_, fun hc => hX _ ?_⟩
            · clear hP hX hk P' X cal
              rw [if_pos hc] at hl
              refine Wp.stepsG 4 (fun cal X P' hk hX hP => ?_)
              show X (8, [some (.ref 60), some (.int 0), some (.int 0), some (.int (v3 + 1))], [], st q4.2 hs, 0, 0)
              refine hX _ ?_
              exact (ih 0 (v3 + 1) q4.2 q hl ct)
            · clear hP hX hk P' X cal
              rw [if_neg hc] at hl
              refine Wp.stepsG 5 (fun cal X P' hk hX hP => ?_)
              show X (8, [some (.ref 60), some (.int 0), some (.int 1), some (.int (v3 + 1))], [], st q4.2 hs, 0, 0)
              refine hX _ ?_
              exact (ih 1 (v3 + 1) q4.2 q hl ct)
set_option maxRecDepth 20000 in
set_option maxHeartbeats 4000000 in
theorem e_X5_learnBoth_d0_60 (d : Nat) (S : St) (hs : List Hr) (v : Int32 × St) (hr : r_X5_learnBoth_d0 S 60 = some v) (P : Option Value → Hp → Prop) (h : P (some (.int v.1)) (st v.2 hs)) : Ev (d + 16) ix_X5_learnBoth 0 0 [.ref 60, .int 0] (st S hs) P := by
  refine Ev.intro (M := mi_X5_learnBoth) rfl (Nat.le_of_ble_eq_true rfl) ?_
  unfold r_X5_learnBoth_d0 at hr
  refine Wp.stepsG 3 (fun cal X P' hk hX hP => ?_)
  show kcall cal ix_X5_learnPart [.ref 60, .int 0] (st S hs) [] 0 0 (0, 0) (fun v σ' c' m' => X (5, [some (.ref 60), some (.int 0), none, none], v.toList ++ [], σ', c', m'))
  obtain ⟨q1, hq1, hr⟩ := bd_some hr
  refine kcall0 rfl (hk _ _ _ _ _ _ (e_X5_learnPart_d0_60 (d + 0) S hs q1 hq1 _ ?_))
  show X (5, [some (.ref 60), some (.int 0), none, none], [.int q1.1], st q1.2 hs, 0, 0)
  refine hX _ ?_
  clear hP hX hk P' X cal
  refine Wp.stepsG 3 (fun cal X P' hk hX hP => ?_)
  show X (8, [some (.ref 60), some (.int 0), some (.int q1.1), some (.int 0)], [], st q1.2 hs, 0, 0)
  refine hX _ ?_
  clear hP hX hk P' X cal
  obtain ⟨q5, hq5, hr⟩ := bd_some hr
  refine (e_lp_X5_learnBoth_d0_8_60 d hs P _ q1.1 0 q1.2 q5 hq5 ?_)
  obtain ⟨hb, hr⟩ := gd_some hr
  have hr := Option.some.inj hr
  subst hr
  refine Wp.stepsG 2 (fun cal X P' hk hX hP => ?_)
  exact ⟨hb, hP _ _ h⟩
set_option maxRecDepth 20000 in
set_option maxHeartbeats 4000000 in
theorem e_lp_X5_learnEither_d0_8_60 (d : Nat) (hs : List Hr) (P : Option Value → Hp → Prop) : ∀ (n : Nat) (v2 : Int32) (v3 : Int32) (S : St) (q : Int32 × St), lp_X5_learnEither_d0_8 60 n v2 v3 S = some q → (WM mi_X5_learnEither (d + 16) P 57 [some (.ref 60), some (.int 0), some (.int q.1), none] [] (st q.2 hs)) → WM mi_X5_learnEither (d + 16) P 8 [some (.ref 60), some (.int 0), some (.int v2), some (.int v3)] [] (st S hs) := by
  intro n
  induction n with
  | zero =>
    intro v2 v3 S q hl
    cases hl
  | succ n ih =>
    intro v2 v3 S q hl ct
    rw [lp_X5_learnEither_d0_8] at hl
    refine Wp.stepsG 3 (fun cal X P' hk hX hP => ?_)
    show (100 ≤ v3 → X (57, [some (.ref 60), some (.int 0), some (.int v2), some (.int v3)], [], st S hs, 0, 0)) ∧ (¬ 100 ≤ v3 → X (14, [some (.ref 60), some (.int 0), some (.int v2), some (.int v3)], [], st S hs, 0, 0))
    refine ⟨fun hc => hX _ ?_, fun hc => hX _ ?_⟩
    · clear hP hX hk P' X cal
      rw [if_pos hc] at hl
      have hl := Option.some.inj hl
      subst hl
      exact Wp.weak (leL.k (leL.k (leL.k (leL.n leL.z)))) (ct)
    · clear hP hX hk P' X cal
      rw [if_neg hc] at hl
      refine Wp.stepsG 2 (fun cal X P' hk hX hP => ?_)
      show (v2 = 0 → X (57, [some (.ref 60), some (.int 0), some (.int v2), some (.int v3)], [], st S hs, 0, 0)) ∧ (¬ v2 = 0 → X (18, [some (.ref 60), some (.int 0), some (.int v2), some (.int v3)], [], st S hs, 0, 0))
      refine ⟨fun hc => hX _ ?_, fun hc => hX _ ?_⟩
      · clear hP hX hk P' X cal
        rw [if_pos hc] at hl
        have hl := Option.some.inj hl
        subst hl
        exact Wp.weak (leL.k (leL.k (leL.k (leL.n leL.z)))) (ct)
      · clear hP hX hk P' X cal
        rw [if_neg hc] at hl
        refine Wp.stepsG 3 (fun cal X P' hk hX hP => ?_)
        show kcall cal ix_X5_goBy [.ref 60, .int 124] (st S hs) [] 0 0 (0, 0) (fun v σ' c' m' => X (24, [some (.ref 60), some (.int 0), some (.int v2), some (.int v3)], v.toList ++ [], σ', c', m'))
        obtain ⟨q2, hq2, hl⟩ := bd_some hl
        refine kcall0 rfl (hk _ _ _ _ _ _ (e_X5_goBy_60 (d + 14) S hs 124 q2 hq2 _ ?_))
        show X (24, [some (.ref 60), some (.int 0), some (.int v2), some (.int v3)], [.int q2.1], st q2.2 hs, 0, 0)
        refine hX _ ?_
        clear hP hX hk P' X cal
        refine Wp.stepsG 1 (fun cal X P' hk hX hP => ?_)
        show (q2.1 = 0 → X (57, [some (.ref 60), some (.int 0), some (.int v2), some (.int v3)], [], st q2.2 hs, 0, 0)) ∧ (¬ q2.1 = 0 → X (27, [some (.ref 60), some (.int 0), some (.int v2), some (.int v3)], [], st q2.2 hs, 0, 0))
        refine ⟨fun hc => hX _ ?_, fun hc => hX _ ?_⟩
        · clear hP hX hk P' X cal
          rw [if_pos hc] at hl
          have hl := Option.some.inj hl
          subst hl
          exact Wp.weak (leL.k (leL.k (leL.k (leL.n leL.z)))) (ct)
        · clear hP hX hk P' X cal
          rw [if_neg hc] at hl
          refine Wp.stepsG 3 (fun cal X P' hk hX hP => ?_)
          show kcall cal ix_X5_learnBoth [.ref 60, .int 0] (st q2.2 hs) [] 0 0 (0, 0) (fun v σ' c' m' => X (32, [some (.ref 60), some (.int 0), some (.int v2), some (.int v3)], v.toList ++ [], σ', c', m'))
          obtain ⟨q3, hq3, hl⟩ := bd_some hl
          refine kcall0 rfl (hk _ _ _ _ _ _ (e_X5_learnBoth_d0_60 (d + 0) q2.2 hs q3 hq3 _ ?_))
          show X (32, [some (.ref 60), some (.int 0), some (.int v2), some (.int v3)], [.int q3.1], st q3.2 hs, 0, 0)
          refine hX _ ?_
          clear hP hX hk P' X cal
          refine Wp.stepsG 1 (fun cal X P' hk hX hP => ?_)
          show (q3.1 = 0 → X (49, [some (.ref 60), some (.int 0), some (.int v2), some (.int v3)], [], st q3.2 hs, 0, 0)) ∧ (¬ q3.1 = 0 → X (35, [some (.ref 60), some (.int 0), some (.int v2), some (.int v3)], [], st q3.2 hs, 0, 0))
          refine ⟨fun hc => hX _ ?_, fun hc => hX _ ?_⟩
          · clear hP hX hk P' X cal
            rw [if_pos hc] at hl
            refine Wp.stepsG 4 (fun cal X P' hk hX hP => ?_)
            show X (8, [some (.ref 60), some (.int 0), some (.int 0), some (.int (v3 + 1))], [], st q3.2 hs, 0, 0)
            refine hX _ ?_
            exact (ih 0 (v3 + 1) q3.2 q hl ct)
          · clear hP hX hk P' X cal
            rw [if_neg hc] at hl
            refine Wp.stepsG 4 (fun cal X P' hk hX hP => ?_)
            show kcall cal ix_X5_add [.ref 60, .int 20, .int 0] (st q3.2 hs) [] 0 0 (0, 0) (fun v σ' c' m' => X (42, [some (.ref 60), some (.int 0), some (.int v2), some (.int v3)], v.toList ++ [], σ', c', m'))
            obtain ⟨q4, hq4, hl⟩ := bd_some hl
            refine kcall0 rfl (hk _ _ _ _ _ _ (e_X5_add_60 (d + 15) q3.2 hs 20 0 q4 hq4 _ ?_))
            show X (42, [some (.ref 60), some (.int 0), some (.int v2), some (.int v3)], [.int q4.1], st q4.2 hs, 0, 0)
            refine hX _ ?_
            clear hP hX hk P' X cal
            refine Wp.stepsG 1 (fun cal X P' hk hX hP => ?_)
            show (q4.1 = 0 → X (49, [some (.ref 60), some (.int 0), some (.int v2), some (.int v3)], [], st q4.2 hs, 0, 0)) ∧ (¬ q4.1 = 0 → X (45, [some (.ref 60), some (.int 0), some (.int v2), some (.int v3)], [], st q4.2 hs, 0, 0))
            refine ⟨fun hc => hX _ ?_, fun hc => hX _ ?_⟩
            · clear hP hX hk P' X cal
              rw [if_pos hc] at hl
              refine Wp.stepsG 4 (fun cal X P' hk hX hP => ?_)
              show X (8, [some (.ref 60), some (.int 0), some (.int 0), some (.int (v3 + 1))], [], st q4.2 hs, 0, 0)
              refine hX _ ?_
              exact (ih 0 (v3 + 1) q4.2 q hl ct)
            · clear hP hX hk P' X cal
              rw [if_neg hc] at hl
              refine Wp.stepsG 5 (fun cal X P' hk hX hP => ?_)
              show X (8, [some (.ref 60), some (.int 0), some (.int 1), some (.int (v3 + 1))], [], st q4.2 hs, 0, 0)
              refine hX _ ?_
              exact (ih 1 (v3 + 1) q4.2 q hl ct)
set_option maxRecDepth 20000 in
set_option maxHeartbeats 4000000 in
theorem e_X5_learnEither_d0_60 (d : Nat) (S : St) (hs : List Hr) (v : Int32 × St) (hr : r_X5_learnEither_d0 S 60 = some v) (P : Option Value → Hp → Prop) (h : P (some (.int v.1)) (st v.2 hs)) : Ev (d + 17) ix_X5_learnEither 0 0 [.ref 60, .int 0] (st S hs) P := by
  refine Ev.intro (M := mi_X5_learnEither) rfl (Nat.le_of_ble_eq_true rfl) ?_
  unfold r_X5_learnEither_d0 at hr
  refine Wp.stepsG 3 (fun cal X P' hk hX hP => ?_)
  show kcall cal ix_X5_learnBoth [.ref 60, .int 0] (st S hs) [] 0 0 (0, 0) (fun v σ' c' m' => X (5, [some (.ref 60), some (.int 0), none, none], v.toList ++ [], σ', c', m'))
  obtain ⟨q1, hq1, hr⟩ := bd_some hr
  refine kcall0 rfl (hk _ _ _ _ _ _ (e_X5_learnBoth_d0_60 (d + 0) S hs q1 hq1 _ ?_))
  show X (5, [some (.ref 60), some (.int 0), none, none], [.int q1.1], st q1.2 hs, 0, 0)
  refine hX _ ?_
  clear hP hX hk P' X cal
  refine Wp.stepsG 3 (fun cal X P' hk hX hP => ?_)
  show X (8, [some (.ref 60), some (.int 0), some (.int q1.1), some (.int 0)], [], st q1.2 hs, 0, 0)
  refine hX _ ?_
  clear hP hX hk P' X cal
  obtain ⟨q5, hq5, hr⟩ := bd_some hr
  refine (e_lp_X5_learnEither_d0_8_60 d hs P _ q1.1 0 q1.2 q5 hq5 ?_)
  obtain ⟨hb, hr⟩ := gd_some hr
  have hr := Option.some.inj hr
  subst hr
  refine Wp.stepsG 2 (fun cal X P' hk hX hP => ?_)
  exact ⟨hb, hP _ _ h⟩
set_option maxRecDepth 20000 in
set_option maxHeartbeats 4000000 in
theorem e_X5_learnClause_60 (d : Nat) (S : St) (hs : List Hr) (v : Int32 × St) (hr : r_X5_learnClause S 60 = some v) (P : Option Value → Hp → Prop) (h : P (some (.int v.1)) (st v.2 hs)) : Ev (d + 18) ix_X5_learnClause 0 0 [.ref 60] (st S hs) P := by
  refine Ev.intro (M := mi_X5_learnClause) rfl (Nat.le_of_ble_eq_true rfl) ?_
  unfold r_X5_learnClause at hr
  refine Wp.stepsG 2 (fun cal X P' hk hX hP => ?_)
  show kcall cal ix_X5_goByWord [.ref 60] (st S hs) [] 0 0 (0, 0) (fun v σ' c' m' => X (4, [some (.ref 60), none, none], v.toList ++ [], σ', c', m'))
  obtain ⟨q1, hq1, hr⟩ := bd_some hr
  refine kcall0 rfl (hk _ _ _ _ _ _ (e_X5_goByWord_60 (d + 14) S hs q1 hq1 _ ?_))
  show X (4, [some (.ref 60), none, none], [.int q1.1], st q1.2 hs, 0, 0)
  refine hX _ ?_
  clear hP hX hk P' X cal
  refine Wp.stepsG 3 (fun cal X P' hk hX hP => ?_)
  show (q1.1 < 0 → X (18, [some (.ref 60), some (.int q1.1), none], [], st q1.2 hs, 0, 0)) ∧ (¬ q1.1 < 0 → X (9, [some (.ref 60), some (.int q1.1), none], [], st q1.2 hs, 0, 0))
  refine ⟨fun hc => hX _ ?_, fun hc => hX _ ?_⟩
  · clear hP hX hk P' X cal
    rw [if_pos hc] at hr
    have hr := Option.some.inj hr
    subst hr
    refine Wp.stepsG 2 (fun cal X P' hk hX hP => ?_)
    exact ⟨Or.inl rfl, hP _ _ h⟩
  · clear hP hX hk P' X cal
    rw [if_neg hc] at hr
    refine Wp.stepsG 3 (fun cal X P' hk hX hP => ?_)
    show kcall cal ix_X5_goBy [.ref 60, .int 32] (st q1.2 hs) [] 0 0 (0, 0) (fun v σ' c' m' => X (15, [some (.ref 60), some (.int q1.1), none], v.toList ++ [], σ', c', m'))
    obtain ⟨q2, hq2, hr⟩ := bd_some hr
    refine kcall0 rfl (hk _ _ _ _ _ _ (e_X5_goBy_60 (d + 15) q1.2 hs 32 q2 hq2 _ ?_))
    show X (15, [some (.ref 60), some (.int q1.1), none], [.int q2.1], st q2.2 hs, 0, 0)
    refine hX _ ?_
    clear hP hX hk P' X cal
    refine Wp.stepsG 1 (fun cal X P' hk hX hP => ?_)
    show (¬ q2.1 = 0 → X (20, [some (.ref 60), some (.int q1.1), none], [], st q2.2 hs, 0, 0)) ∧ (q2.1 = 0 → X (18, [some (.ref 60), some (.int q1.1), none], [], st q2.2 hs, 0, 0))
    refine ⟨fun hc => hX _ ?_, fun hc => hX _ ?_⟩
    · clear hP hX hk P' X cal
      rw [if_neg hc] at hr
      refine Wp.stepsG 2 (fun cal X P' hk hX hP => ?_)
      show kcall cal ix_X5_goByNumber [.ref 60] (st q2.2 hs) [] 0 0 (0, 0) (fun v σ' c' m' => X (24, [some (.ref 60), some (.int q1.1), none], v.toList ++ [], σ', c', m'))
      obtain ⟨q3, hq3, hr⟩ := bd_some hr
      refine kcall0 rfl (hk _ _ _ _ _ _ (e_X5_goByNumber_60 (d + 15) q2.2 hs q3 hq3 _ ?_))
      show X (24, [some (.ref 60), some (.int q1.1), none], [.int q3.1], st q3.2 hs, 0, 0)
      refine hX _ ?_
      clear hP hX hk P' X cal
      refine Wp.stepsG 3 (fun cal X P' hk hX hP => ?_)
      show (0 ≤ q3.1 → X (31, [some (.ref 60), some (.int q1.1), some (.int q3.1)], [], st q3.2 hs, 0, 0)) ∧ (¬ 0 ≤ q3.1 → X (29, [some (.ref 60), some (.int q1.1), some (.int q3.1)], [], st q3.2 hs, 0, 0))
      refine ⟨fun hc => hX _ ?_, fun hc => hX _ ?_⟩
      · clear hP hX hk P' X cal
        rw [if_pos hc] at hr
        refine Wp.stepsG 2 (fun cal X P' hk hX hP => ?_)
        show (q1.1 = 2 → X (60, [some (.ref 60), some (.int q1.1), some (.int q3.1)], [], st q3.2 hs, 0, 0)) ∧ (¬ q1.1 = 2 → (q1.1 = 3 → X (67, [some (.ref 60), some (.int q1.1), some (.int q3.1)], [], st q3.2 hs, 0, 0)) ∧ (¬ q1.1 = 3 → X (74, [some (.ref 60), some (.int q1.1), some (.int q3.1)], [], st q3.2 hs, 0, 0)))
        refine ⟨fun hc => hX _ ?_, fun hc => ?_⟩
        · clear hP hX hk P' X cal
          rw [if_pos hc] at hr
          have hr := Option.some.inj hr
          subst hr
          refine Wp.stepsG 5 (fun cal X P' hk hX hP => ?_)
          exact ⟨Or.inr rfl, hP _ _ h⟩
        · rw [if_neg hc] at hr
          refine ⟨fun hc => hX _ ?_, fun hc => hX _ ?_⟩
          · clear hP hX hk P' X cal
            rw [if_pos hc] at hr
            have hr := Option.some.inj hr
            subst hr
            refine Wp.stepsG 5 (fun cal X P' hk hX hP => ?_)
            exact ⟨Or.inr rfl, hP _ _ h⟩
          · rw [if_neg hc] at hr
            clear hP hX hk P' X cal
            refine Wp.stepsG 3 (fun cal X P' hk hX hP => ?_)
            show kcall cal ix_X5_goBy [.ref 60, .int 32] (st q3.2 hs) [] 0 0 (0, 0) (fun v σ' c' m' => X (80, [some (.ref 60), some (.int q1.1), some (.int q3.1)], v.toList ++ [], σ', c', m'))
            obtain ⟨q4, hq4, hr⟩ := bd_some hr
            refine kcall0 rfl (hk _ _ _ _ _ _ (e_X5_goBy_60 (d + 15) q3.2 hs 32 q4 hq4 _ ?_))
            show X (80, [some (.ref 60), some (.int q1.1), some (.int q3.1)], [.int q4.1], st q4.2 hs, 0, 0)
            refine hX _ ?_
            clear hP hX hk P' X cal
            refine Wp.stepsG 1 (fun cal X P' hk hX hP => ?_)
            show (q4.1 = 0 → X (114, [some (.ref 60), some (.int q1.1), some (.int q3.1)], [], st q4.2 hs, 0, 0)) ∧ (¬ q4.1 = 0 → X (83, [some (.ref 60), some (.int q1.1), some (.int q3.1)], [], st q4.2 hs, 0, 0))
            refine ⟨fun hc => hX _ ?_, fun hc => hX _ ?_⟩
            · clear hP hX hk P' X cal
              rw [if_pos hc] at hr
              have hr := Option.some.inj hr
              subst hr
              refine Wp.stepsG 2 (fun cal X P' hk hX hP => ?_)
              exact ⟨Or.inl rfl, hP _ _ h⟩
            · clear hP hX hk P' X cal
              rw [if_neg hc] at hr
              refine Wp.stepsG 3 (fun cal X P' hk hX hP => ?_)
              show kcall cal ix_X5_learnEither [.ref 60, .int 0] (st q4.2 hs) [] 0 0 (0, 0) (fun v σ' c' m' => X (88, [some (.ref 60), some (.int q1.1), some (.int q3.1)], v.toList ++ [], σ', c', m'))
              obtain ⟨q5, hq5, hr⟩ := bd_some hr
              refine kcall0 rfl (hk _ _ _ _ _ _ (e_X5_learnEither_d0_60 (d + 0) q4.2 hs q5 hq5 _ ?_))
              show X (88, [some (.ref 60), some (.int q1.1), some (.int q3.1)], [.int q5.1], st q5.2 hs, 0, 0)
              refine hX _ ?_
              clear hP hX hk P' X cal
              refine Wp.stepsG 1 (fun cal X P' hk hX hP => ?_)
              show (q5.1 = 0 → X (114, [some (.ref 60), some (.int q1.1), some (.int q3.1)], [], st q5.2 hs, 0, 0)) ∧ (¬ q5.1 = 0 → X (91, [some (.ref 60), some (.int q1.1), some (.int q3.1)], [], st q5.2 hs, 0, 0))
              refine ⟨fun hc => hX _ ?_, fun hc => hX _ ?_⟩
              · clear hP hX hk P' X cal
                rw [if_pos hc] at hr
                have hr := Option.some.inj hr
                subst hr
                refine Wp.stepsG 2 (fun cal X P' hk hX hP => ?_)
                exact ⟨Or.inl rfl, hP _ _ h⟩
              · clear hP hX hk P' X cal
                rw [if_neg hc] at hr
                refine Wp.stepsG 4 (fun cal X P' hk hX hP => ?_)
                show (¬ q1.1 = 0 → X (102, [some (.ref 60), some (.int q1.1), some (.int q3.1)], [.int 21, .ref 60], st q5.2 hs, 0, 0)) ∧ (q1.1 = 0 → X (98, [some (.ref 60), some (.int q1.1), some (.int q3.1)], [.int 21, .ref 60], st q5.2 hs, 0, 0))
                refine ⟨fun hc => hX _ ?_, fun hc => hX _ ?_⟩
                · clear hP hX hk P' X cal
                  rw [if_neg hc] at hr
                  refine Wp.stepsG 3 (fun cal X P' hk hX hP => ?_)
                  show kcall cal ix_X5_add [.ref 60, .int 21, .int (-q3.1)] (st q5.2 hs) [] 0 0 (0, 0) (fun v σ' c' m' => X (107, [some (.ref 60), some (.int q1.1), some (.int q3.1)], v.toList ++ [], σ', c', m'))
                  obtain ⟨q6, hq6, hr⟩ := bd_some hr
                  refine kcall0 rfl (hk _ _ _ _ _ _ (e_X5_add_60 (d + 16) q5.2 hs 21 (-q3.1) q6 hq6 _ ?_))
                  show X (107, [some (.ref 60), some (.int q1.1), some (.int q3.1)], [.int q6.1], st q6.2 hs, 0, 0)
                  refine hX _ ?_
                  clear hP hX hk P' X cal
                  refine Wp.stepsG 1 (fun cal X P' hk hX hP => ?_)
                  show (q6.1 = 0 → X (114, [some (.ref 60), some (.int q1.1), some (.int q3.1)], [], st q6.2 hs, 0, 0)) ∧ (¬ q6.1 = 0 → X (110, [some (.ref 60), some (.int q1.1), some (.int q3.1)], [], st q6.2 hs, 0, 0))
                  refine ⟨fun hc => hX _ ?_, fun hc => hX _ ?_⟩
                  · clear hP hX hk P' X cal
                    rw [if_pos hc] at hr
                    have hr := Option.some.inj hr
                    subst hr
                    refine Wp.stepsG 2 (fun cal X P' hk hX hP => ?_)
                    exact ⟨Or.inl rfl, hP _ _ h⟩
                  · clear hP hX hk P' X cal
                    rw [if_neg hc] at hr
                    have hr := Option.some.inj hr
                    subst hr
                    refine Wp.stepsG 3 (fun cal X P' hk hX hP => ?_)
                    exact ⟨Or.inr rfl, hP _ _ h⟩
                · clear hP hX hk P' X cal
                  rw [if_pos hc] at hr
                  refine Wp.stepsG 3 (fun cal X P' hk hX hP => ?_)
                  show kcall cal ix_X5_add [.ref 60, .int 21, .int q3.1] (st q5.2 hs) [] 0 0 (0, 0) (fun v σ' c' m' => X (107, [some (.ref 60), some (.int q1.1), some (.int q3.1)], v.toList ++ [], σ', c', m'))
                  obtain ⟨q7, hq7, hr⟩ := bd_some hr
                  refine kcall0 rfl (hk _ _ _ _ _ _ (e_X5_add_60 (d + 16) q5.2 hs 21 q3.1 q7 hq7 _ ?_))
                  show X (107, [some (.ref 60), some (.int q1.1), some (.int q3.1)], [.int q7.1], st q7.2 hs, 0, 0)
                  refine hX _ ?_
                  clear hP hX hk P' X cal
                  refine Wp.stepsG 1 (fun cal X P' hk hX hP => ?_)
                  show (q7.1 = 0 → X (114, [some (.ref 60), some (.int q1.1), some (.int q3.1)], [], st q7.2 hs, 0, 0)) ∧ (¬ q7.1 = 0 → X (110, [some (.ref 60), some (.int q1.1), some (.int q3.1)], [], st q7.2 hs, 0, 0))
                  refine ⟨fun hc => hX _ ?_, fun hc => hX _ ?_⟩
                  · clear hP hX hk P' X cal
                    rw [if_pos hc] at hr
                    have hr := Option.some.inj hr
                    subst hr
                    refine Wp.stepsG 2 (fun cal X P' hk hX hP => ?_)
                    exact ⟨Or.inl rfl, hP _ _ h⟩
                  · clear hP hX hk P' X cal
                    rw [if_neg hc] at hr
                    have hr := Option.some.inj hr
                    subst hr
                    refine Wp.stepsG 3 (fun cal X P' hk hX hP => ?_)
                    exact ⟨Or.inr rfl, hP _ _ h⟩
      · clear hP hX hk P' X cal
        rw [if_neg hc] at hr
        have hr := Option.some.inj hr
        subst hr
        refine Wp.stepsG 2 (fun cal X P' hk hX hP => ?_)
        exact ⟨Or.inl rfl, hP _ _ h⟩
    · clear hP hX hk P' X cal
      rw [if_pos hc] at hr
      have hr := Option.some.inj hr
      subst hr
      refine Wp.stepsG 2 (fun cal X P' hk hX hP => ?_)
      exact ⟨Or.inl rfl, hP _ _ h⟩
set_option maxRecDepth 20000 in
set_option maxHeartbeats 4000000 in
theorem e_lp_X5_learn_28_38_60 (d : Nat) (hs : List Hr) (P : Option Value → Hp → Prop) : ∀ (n : Nat) (v3 : Int32) (S : St) (q : Nat × St), lp_X5_learn_28_38 60 n v3 S = some q → (q.1 = 0 → WM mi_X5_learn (d + 18) P 62 [some (.ref 60), none, none, none] [] (st q.2 hs)) ∧ (q.1 = 1 → WM mi_X5_learn (d + 18) P 79 [some (.ref 60), none, none, none] [] (st q.2 hs)) ∧ (q.1 = 2 → WM mi_X5_learn (d + 18) P 90 [some (.ref 60), none, none, none] [] (st q.2 hs)) → WM mi_X5_learn (d + 18) P 38 [some (.ref 60), none, none, some (.int v3)] [] (st S hs) := by
  intro n
  induction n with
  | zero =>
    intro v3 S q hl
    cases hl
  | succ n ih =>
    intro v3 S q hl ct
    rw [lp_X5_learn_28_38] at hl
    refine Wp.stepsG 3 (fun cal X P' hk hX hP => ?_)
    show (10 < v3 → X (90, [some (.ref 60), none, none, some (.int v3)], [], st S hs, 0, 0)) ∧ (¬ 10 < v3 → X (44, [some (.ref 60), none, none, some (.int v3)], [], st S hs, 0, 0))
    refine ⟨fun hc => hX _ ?_, fun hc => hX _ ?_⟩
    · clear hP hX hk P' X cal
      rw [if_pos hc] at hl
      have hl := Option.some.inj hl
      subst hl
      exact Wp.weak (leL.k (leL.k (leL.k (leL.n leL.z)))) (ct.2.2 rfl)
    · clear hP hX hk P' X cal
      rw [if_neg hc] at hl
      refine Wp.stepsG 2 (fun cal X P' hk hX hP => ?_)
      show kcall cal ix_X5_learnClause [.ref 60] (st S hs) [] 0 0 (0, 0) (fun v σ' c' m' => X (48, [some (.ref 60), none, none, some (.int v3)], v.toList ++ [], σ', c', m'))
      obtain ⟨q1, hq1, hl⟩ := bd_some hl
      refine kcall0 rfl (hk _ _ _ _ _ _ (e_X5_learnClause_60 (d + 0) S hs q1 hq1 _ ?_))
      show X (48, [some (.ref 60), none, none, some (.int v3)], [.int q1.1], st q1.2 hs, 0, 0)
      refine hX _ ?_
      clear hP hX hk P' X cal
      refine Wp.stepsG 1 (fun cal X P' hk hX hP => ?_)
      show (q1.1 = 0 → X (90, [some (.ref 60), none, none, some (.int v3)], [], st q1.2 hs, 0, 0)) ∧ (¬ q1.1 = 0 → X (51, [some (.ref 60), none, none, some (.int v3)], [], st q1.2 hs, 0, 0))
      refine ⟨fun hc => hX _ ?_, fun hc => hX _ ?_⟩
      · clear hP hX hk P' X cal
        rw [if_pos hc] at hl
        have hl := Option.some.inj hl
        subst hl
        exact Wp.weak (leL.k (leL.k (leL.k (leL.n leL.z)))) (ct.2.2 rfl)
      · clear hP hX hk P' X cal
        rw [if_neg hc] at hl
        refine Wp.stepsG 5 (fun cal X P' hk hX hP => ?_)
        show (¬ (q1.2.1 60 7) = (q1.2.1 60 6) → X (64, [some (.ref 60), none, none, some (.int v3)], [], st q1.2 hs, 0, 0)) ∧ ((q1.2.1 60 7) = (q1.2.1 60 6) → X (62, [some (.ref 60), none, none, some (.int v3)], [], st q1.2 hs, 0, 0))
        refine ⟨fun hc => hX _ ?_, fun hc => hX _ ?_⟩
        · clear hP hX hk P' X cal
          rw [if_neg hc] at hl
          refine Wp.stepsG 3 (fun cal X P' hk hX hP => ?_)
          show (v3 = 10 → X (79, [some (.ref 60), none, none, some (.int v3)], [], st q1.2 hs, 0, 0)) ∧ (¬ v3 = 10 → X (70, [some (.ref 60), none, none, some (.int v3)], [], st q1.2 hs, 0, 0))
          refine ⟨fun hc => hX _ ?_, fun hc => hX _ ?_⟩
          · clear hP hX hk P' X cal
            rw [if_pos hc] at hl
            have hl := Option.some.inj hl
            subst hl
            exact Wp.weak (leL.k (leL.k (leL.k (leL.n leL.z)))) (ct.2.1 rfl)
          · clear hP hX hk P' X cal
            rw [if_neg hc] at hl
            refine Wp.stepsG 3 (fun cal X P' hk hX hP => ?_)
            show kcall cal ix_X5_goBy [.ref 60, .int 59] (st q1.2 hs) [] 0 0 (0, 0) (fun v σ' c' m' => X (76, [some (.ref 60), none, none, some (.int v3)], v.toList ++ [], σ', c', m'))
            obtain ⟨q2, hq2, hl⟩ := bd_some hl
            refine kcall0 rfl (hk _ _ _ _ _ _ (e_X5_goBy_60 (d + 16) q1.2 hs 59 q2 hq2 _ ?_))
            show X (76, [some (.ref 60), none, none, some (.int v3)], [.int q2.1], st q2.2 hs, 0, 0)
            refine hX _ ?_
            clear hP hX hk P' X cal
            refine Wp.stepsG 1 (fun cal X P' hk hX hP => ?_)
            show (¬ q2.1 = 0 → X (84, [some (.ref 60), none, none, some (.int v3)], [], st q2.2 hs, 0, 0)) ∧ (q2.1 = 0 → X (79, [some (.ref 60), none, none, some (.int v3)], [], st q2.2 hs, 0, 0))
            refine ⟨fun hc => hX _ ?_, fun hc => hX _ ?_⟩
            · clear hP hX hk P' X cal
              rw [if_neg hc] at hl
              refine Wp.stepsG 2 (fun cal X P' hk hX hP => ?_)
              show X (38, [some (.ref 60), none, none, some (.int (v3 + 1))], [], st q2.2 hs, 0, 0)
              refine hX _ ?_
              exact (ih (v3 + 1) q2.2 q hl ct)
            · clear hP hX hk P' X cal
              rw [if_pos hc] at hl
              have hl := Option.some.inj hl
              subst hl
              exact Wp.weak (leL.k (leL.k (leL.k (leL.n leL.z)))) (ct.2.1 rfl)
        · clear hP hX hk P' X cal
          rw [if_pos hc] at hl
          have hl := Option.some.inj hl
          subst hl
          exact Wp.weak (leL.k (leL.k (leL.k (leL.n leL.z)))) (ct.1 rfl)
set_option maxRecDepth 20000 in
set_option maxHeartbeats 4000000 in
theorem e_X5_learn_28_60 (d : Nat) (S : St) (hs : List Hr) (a2 : Int32) (v : Int32 × St) (hr : r_X5_learn_28 S 60 a2 = some v) (P : Option Value → Hp → Prop) (h : P (some (.int v.1)) (st v.2 hs)) : Ev (d + 19) ix_X5_learn 0 0 [.ref 60, .ref 28, .int a2] (st S hs) P := by
  refine Ev.intro (M := mi_X5_learn) rfl (Nat.le_of_ble_eq_true rfl) ?_
  unfold r_X5_learn_28 at hr
  refine Wp.stepsG 23 (fun cal X P' hk hX hP => ?_)
  show X (38, [some (.ref 60), some (.ref 28), some (.int a2), some (.int 1)], [], st (sI (sI (sI (sI (sI (sR S 60 5 (some 28)) 60 6 (if 100 < a2 then 100 else a2)) 60 7 0) 60 2 0) 60 3 20) 60 4 5) hs, 0, 0)
  refine hX _ ?_
  clear hP hX hk P' X cal
  obtain ⟨q3, hq3, hr⟩ := bd_some hr
  refine Wp.weak (leL.k (leL.n (leL.n (leL.k leL.z)))) (e_lp_X5_learn_28_38_60 d hs P _ 1 (sI (sI (sI (sI (sI (sR S 60 5 (some 28)) 60 6 (if 100 < a2 then 100 else a2)) 60 7 0) 60 2 0) 60 3 20) 60 4 5) q3 hq3 ?_)
  refine ⟨fun hc => ?_, fun hc => ?_, fun hc => ?_⟩
  · have hcc := hc
    rw [if_pos hcc] at hr
    have hr := Option.some.inj hr
    subst hr
    refine Wp.stepsG 2 (fun cal X P' hk hX hP => ?_)
    exact hP _ _ h
  · have hcc := hc
    rw [if_neg (fun z => by rw [z] at hcc; exact absurd hcc (by decide))] at hr
    rw [if_pos hcc] at hr
    have hr := Option.some.inj hr
    subst hr
    refine Wp.stepsG 3 (fun cal X P' hk hX hP => ?_)
    exact hP _ _ h
  · have hcc := hc
    rw [if_neg (fun z => by rw [z] at hcc; exact absurd hcc (by decide))] at hr
    rw [if_neg (fun z => by rw [z] at hcc; exact absurd hcc (by decide))] at hr
    have hr := Option.some.inj hr
    subst hr
    refine Wp.stepsG 3 (fun cal X P' hk hX hP => ?_)
    exact hP _ _ h
def r_X11_house (S : St) : Option (Int32 × St) :=
  if (S.1 7 6) < 6 then
    gd (¬ ((S.1 7 6) < 0 ∨ 6 ≤ (S.1 7 6).toNatClampNeg)) (
      oN (hsF (S.1 7 6).toNatClampNeg) (
        none) (fun o =>
        (r_X5_learn_28 S o (S.1 7 4)).bind fun q1 =>
        if q1.1 < 0 then
          some (q1.2.1 7 6, sI (sI (sI q1.2 7 4 0) 8 1 (q1.2.1 7 6)) 7 6 ((q1.2.1 7 6) + 1))
        else
          some (((-10) : Int32) - q1.1, sI q1.2 7 4 0)))
  else
    some ((-4), S)
set_option maxRecDepth 20000 in
set_option maxHeartbeats 4000000 in
theorem e_X11_house (d : Nat) (S : St) (hs : List Hr) (v : Int32 × St) (hr : r_X11_house S = some v) (P : Option Value → Hp → Prop) (h : P (some (.int v.1)) (st v.2 hs)) : Ev (d + 20) ix_X11_house 0 0 [.ref 7] (st S hs) P := by
  refine Ev.intro (M := mi_X11_house) rfl (Nat.le_of_ble_eq_true rfl) ?_
  unfold r_X11_house at hr
  refine Wp.stepsG 4 (fun cal X P' hk hX hP => ?_)
  show ((S.1 7 6) < 6 → X (12, [some (.ref 7), none], [], st S hs, 0, 0)) ∧ (¬ (S.1 7 6) < 6 → X (9, [some (.ref 7), none], [], st S hs, 0, 0))
  refine ⟨fun hc => hX _ ?_, fun hc => hX _ ?_⟩
  · clear hP hX hk P' X cal
    rw [if_pos hc] at hr
    refine Wp.stepsG 5 (fun cal X P' hk hX hP => ?_)
    show vp_in (S.1 7 6) 6 ∧ X (21, [some (.ref 7), none], [va_rf (hsF (S.1 7 6).toNatClampNeg)], st S hs, 0, 0)
    obtain ⟨hg, hr⟩ := gd_some hr
    refine ⟨hg, hX _ ?_⟩
    clear hP hX hk P' X cal
    rcases hsF_cases ((S.1 7 6).toNatClampNeg) with hz8 | hz8 | hz8 | hz8 | hz8 | hz8 | hz8
    · rw [hz8]
      rw [oN_no hz8] at hr
      cases hr
    · rw [hz8]
      rw [oN_is hz8] at hr
      refine Wp.stepsG 5 (fun cal X P' hk hX hP => ?_)
      show kcall cal ix_X5_learn [.ref 40, .ref 28, .int (S.1 7 4)] (st S hs) [] 0 0 (0, 0) (fun v σ' c' m' => X (32, [some (.ref 7), none], v.toList ++ [], σ', c', m'))
      obtain ⟨q2, hq2, hr⟩ := bd_some hr
      refine kcall0 rfl (hk _ _ _ _ _ _ (e_X5_learn_28_40 (d + 0) S hs (S.1 7 4) q2 hq2 _ ?_))
      show X (32, [some (.ref 7), none], [.int q2.1], st q2.2 hs, 0, 0)
      refine hX _ ?_
      clear hP hX hk P' X cal
      refine Wp.stepsG 6 (fun cal X P' hk hX hP => ?_)
      show (q2.1 < 0 → X (47, [some (.ref 7), some (.int q2.1)], [], st (sI q2.2 7 4 0) hs, 0, 0)) ∧ (¬ q2.1 < 0 → X (42, [some (.ref 7), some (.int q2.1)], [], st (sI q2.2 7 4 0) hs, 0, 0))
      refine ⟨fun hc => hX _ ?_, fun hc => hX _ ?_⟩
      · clear hP hX hk P' X cal
        rw [if_pos hc] at hr
        have hr := Option.some.inj hr
        subst hr
        refine Wp.stepsG 13 (fun cal X P' hk hX hP => ?_)
        exact hP _ _ h
      · clear hP hX hk P' X cal
        rw [if_neg hc] at hr
        have hr := Option.some.inj hr
        subst hr
        refine Wp.stepsG 4 (fun cal X P' hk hX hP => ?_)
        exact hP _ _ h
    · rw [hz8]
      rw [oN_is hz8] at hr
      refine Wp.stepsG 5 (fun cal X P' hk hX hP => ?_)
      show kcall cal ix_X5_learn [.ref 44, .ref 28, .int (S.1 7 4)] (st S hs) [] 0 0 (0, 0) (fun v σ' c' m' => X (32, [some (.ref 7), none], v.toList ++ [], σ', c', m'))
      obtain ⟨q3, hq3, hr⟩ := bd_some hr
      refine kcall0 rfl (hk _ _ _ _ _ _ (e_X5_learn_28_44 (d + 0) S hs (S.1 7 4) q3 hq3 _ ?_))
      show X (32, [some (.ref 7), none], [.int q3.1], st q3.2 hs, 0, 0)
      refine hX _ ?_
      clear hP hX hk P' X cal
      refine Wp.stepsG 6 (fun cal X P' hk hX hP => ?_)
      show (q3.1 < 0 → X (47, [some (.ref 7), some (.int q3.1)], [], st (sI q3.2 7 4 0) hs, 0, 0)) ∧ (¬ q3.1 < 0 → X (42, [some (.ref 7), some (.int q3.1)], [], st (sI q3.2 7 4 0) hs, 0, 0))
      refine ⟨fun hc => hX _ ?_, fun hc => hX _ ?_⟩
      · clear hP hX hk P' X cal
        rw [if_pos hc] at hr
        have hr := Option.some.inj hr
        subst hr
        refine Wp.stepsG 13 (fun cal X P' hk hX hP => ?_)
        exact hP _ _ h
      · clear hP hX hk P' X cal
        rw [if_neg hc] at hr
        have hr := Option.some.inj hr
        subst hr
        refine Wp.stepsG 4 (fun cal X P' hk hX hP => ?_)
        exact hP _ _ h
    · rw [hz8]
      rw [oN_is hz8] at hr
      refine Wp.stepsG 5 (fun cal X P' hk hX hP => ?_)
      show kcall cal ix_X5_learn [.ref 48, .ref 28, .int (S.1 7 4)] (st S hs) [] 0 0 (0, 0) (fun v σ' c' m' => X (32, [some (.ref 7), none], v.toList ++ [], σ', c', m'))
      obtain ⟨q4, hq4, hr⟩ := bd_some hr
      refine kcall0 rfl (hk _ _ _ _ _ _ (e_X5_learn_28_48 (d + 0) S hs (S.1 7 4) q4 hq4 _ ?_))
      show X (32, [some (.ref 7), none], [.int q4.1], st q4.2 hs, 0, 0)
      refine hX _ ?_
      clear hP hX hk P' X cal
      refine Wp.stepsG 6 (fun cal X P' hk hX hP => ?_)
      show (q4.1 < 0 → X (47, [some (.ref 7), some (.int q4.1)], [], st (sI q4.2 7 4 0) hs, 0, 0)) ∧ (¬ q4.1 < 0 → X (42, [some (.ref 7), some (.int q4.1)], [], st (sI q4.2 7 4 0) hs, 0, 0))
      refine ⟨fun hc => hX _ ?_, fun hc => hX _ ?_⟩
      · clear hP hX hk P' X cal
        rw [if_pos hc] at hr
        have hr := Option.some.inj hr
        subst hr
        refine Wp.stepsG 13 (fun cal X P' hk hX hP => ?_)
        exact hP _ _ h
      · clear hP hX hk P' X cal
        rw [if_neg hc] at hr
        have hr := Option.some.inj hr
        subst hr
        refine Wp.stepsG 4 (fun cal X P' hk hX hP => ?_)
        exact hP _ _ h
    · rw [hz8]
      rw [oN_is hz8] at hr
      refine Wp.stepsG 5 (fun cal X P' hk hX hP => ?_)
      show kcall cal ix_X5_learn [.ref 52, .ref 28, .int (S.1 7 4)] (st S hs) [] 0 0 (0, 0) (fun v σ' c' m' => X (32, [some (.ref 7), none], v.toList ++ [], σ', c', m'))
      obtain ⟨q5, hq5, hr⟩ := bd_some hr
      refine kcall0 rfl (hk _ _ _ _ _ _ (e_X5_learn_28_52 (d + 0) S hs (S.1 7 4) q5 hq5 _ ?_))
      show X (32, [some (.ref 7), none], [.int q5.1], st q5.2 hs, 0, 0)
      refine hX _ ?_
      clear hP hX hk P' X cal
      refine Wp.stepsG 6 (fun cal X P' hk hX hP => ?_)
      show (q5.1 < 0 → X (47, [some (.ref 7), some (.int q5.1)], [], st (sI q5.2 7 4 0) hs, 0, 0)) ∧ (¬ q5.1 < 0 → X (42, [some (.ref 7), some (.int q5.1)], [], st (sI q5.2 7 4 0) hs, 0, 0))
      refine ⟨fun hc => hX _ ?_, fun hc => hX _ ?_⟩
      · clear hP hX hk P' X cal
        rw [if_pos hc] at hr
        have hr := Option.some.inj hr
        subst hr
        refine Wp.stepsG 13 (fun cal X P' hk hX hP => ?_)
        exact hP _ _ h
      · clear hP hX hk P' X cal
        rw [if_neg hc] at hr
        have hr := Option.some.inj hr
        subst hr
        refine Wp.stepsG 4 (fun cal X P' hk hX hP => ?_)
        exact hP _ _ h
    · rw [hz8]
      rw [oN_is hz8] at hr
      refine Wp.stepsG 5 (fun cal X P' hk hX hP => ?_)
      show kcall cal ix_X5_learn [.ref 56, .ref 28, .int (S.1 7 4)] (st S hs) [] 0 0 (0, 0) (fun v σ' c' m' => X (32, [some (.ref 7), none], v.toList ++ [], σ', c', m'))
      obtain ⟨q6, hq6, hr⟩ := bd_some hr
      refine kcall0 rfl (hk _ _ _ _ _ _ (e_X5_learn_28_56 (d + 0) S hs (S.1 7 4) q6 hq6 _ ?_))
      show X (32, [some (.ref 7), none], [.int q6.1], st q6.2 hs, 0, 0)
      refine hX _ ?_
      clear hP hX hk P' X cal
      refine Wp.stepsG 6 (fun cal X P' hk hX hP => ?_)
      show (q6.1 < 0 → X (47, [some (.ref 7), some (.int q6.1)], [], st (sI q6.2 7 4 0) hs, 0, 0)) ∧ (¬ q6.1 < 0 → X (42, [some (.ref 7), some (.int q6.1)], [], st (sI q6.2 7 4 0) hs, 0, 0))
      refine ⟨fun hc => hX _ ?_, fun hc => hX _ ?_⟩
      · clear hP hX hk P' X cal
        rw [if_pos hc] at hr
        have hr := Option.some.inj hr
        subst hr
        refine Wp.stepsG 13 (fun cal X P' hk hX hP => ?_)
        exact hP _ _ h
      · clear hP hX hk P' X cal
        rw [if_neg hc] at hr
        have hr := Option.some.inj hr
        subst hr
        refine Wp.stepsG 4 (fun cal X P' hk hX hP => ?_)
        exact hP _ _ h
    · rw [hz8]
      rw [oN_is hz8] at hr
      refine Wp.stepsG 5 (fun cal X P' hk hX hP => ?_)
      show kcall cal ix_X5_learn [.ref 60, .ref 28, .int (S.1 7 4)] (st S hs) [] 0 0 (0, 0) (fun v σ' c' m' => X (32, [some (.ref 7), none], v.toList ++ [], σ', c', m'))
      obtain ⟨q7, hq7, hr⟩ := bd_some hr
      refine kcall0 rfl (hk _ _ _ _ _ _ (e_X5_learn_28_60 (d + 0) S hs (S.1 7 4) q7 hq7 _ ?_))
      show X (32, [some (.ref 7), none], [.int q7.1], st q7.2 hs, 0, 0)
      refine hX _ ?_
      clear hP hX hk P' X cal
      refine Wp.stepsG 6 (fun cal X P' hk hX hP => ?_)
      show (q7.1 < 0 → X (47, [some (.ref 7), some (.int q7.1)], [], st (sI q7.2 7 4 0) hs, 0, 0)) ∧ (¬ q7.1 < 0 → X (42, [some (.ref 7), some (.int q7.1)], [], st (sI q7.2 7 4 0) hs, 0, 0))
      refine ⟨fun hc => hX _ ?_, fun hc => hX _ ?_⟩
      · clear hP hX hk P' X cal
        rw [if_pos hc] at hr
        have hr := Option.some.inj hr
        subst hr
        refine Wp.stepsG 13 (fun cal X P' hk hX hP => ?_)
        exact hP _ _ h
      · clear hP hX hk P' X cal
        rw [if_neg hc] at hr
        have hr := Option.some.inj hr
        subst hr
        refine Wp.stepsG 4 (fun cal X P' hk hX hP => ?_)
        exact hP _ _ h
  · clear hP hX hk P' X cal
    rw [if_neg hc] at hr
    have hr := Option.some.inj hr
    subst hr
    refine Wp.stepsG 2 (fun cal X P' hk hX hP => ?_)
    exact hP _ _ h
def r_X11_faceTold (S : St) : Option Int32 :=
  (r_X11_holding S).bind fun q1 =>
  oN (q1) (
    some 5) (fun o =>
    some (S.1 o 4))
set_option maxRecDepth 20000 in
set_option maxHeartbeats 4000000 in
theorem e_X11_faceTold (d : Nat) (S : St) (hs : List Hr) (v : Int32) (hr : r_X11_faceTold S = some v) (P : Option Value → Hp → Prop) (h : P (some (.int v)) (st S hs)) : Ev (d + 3) ix_X11_faceTold 0 0 [.ref 7] (st S hs) P := by
  refine Ev.intro (M := mi_X11_faceTold) rfl (Nat.le_of_ble_eq_true rfl) ?_
  unfold r_X11_faceTold at hr
  refine Wp.stepsG 2 (fun cal X P' hk hX hP => ?_)
  show kcall cal ix_X11_holding [.ref 7] (st S hs) [] 0 0 (0, 0) (fun v σ' c' m' => X (4, [some (.ref 7), none], v.toList ++ [], σ', c', m'))
  obtain ⟨q1, hq1, hr⟩ := bd_some hr
  refine kcall0 rfl (hk _ _ _ _ _ _ (e_X11_holding (d + 0) S hs q1 hq1 _ ?_))
  show X (4, [some (.ref 7), none], [va_rf q1], st S hs, 0, 0)
  refine hX _ ?_
  clear hP hX hk P' X cal
  rcases c_X11_holding hq1 with hz2 | hz2 | hz2 | hz2 | hz2 | hz2 | hz2
  · rw [hz2]
    rw [oN_no hz2] at hr
    have hr := Option.some.inj hr
    subst hr
    refine Wp.stepsG 6 (fun cal X P' hk hX hP => ?_)
    exact hP _ _ h
  · rw [hz2]
    rw [oN_is hz2] at hr
    have hr := Option.some.inj hr
    subst hr
    refine Wp.stepsG 6 (fun cal X P' hk hX hP => ?_)
    exact hP _ _ h
  · rw [hz2]
    rw [oN_is hz2] at hr
    have hr := Option.some.inj hr
    subst hr
    refine Wp.stepsG 6 (fun cal X P' hk hX hP => ?_)
    exact hP _ _ h
  · rw [hz2]
    rw [oN_is hz2] at hr
    have hr := Option.some.inj hr
    subst hr
    refine Wp.stepsG 6 (fun cal X P' hk hX hP => ?_)
    exact hP _ _ h
  · rw [hz2]
    rw [oN_is hz2] at hr
    have hr := Option.some.inj hr
    subst hr
    refine Wp.stepsG 6 (fun cal X P' hk hX hP => ?_)
    exact hP _ _ h
  · rw [hz2]
    rw [oN_is hz2] at hr
    have hr := Option.some.inj hr
    subst hr
    refine Wp.stepsG 6 (fun cal X P' hk hX hP => ?_)
    exact hP _ _ h
  · rw [hz2]
    rw [oN_is hz2] at hr
    have hr := Option.some.inj hr
    subst hr
    refine Wp.stepsG 6 (fun cal X P' hk hX hP => ?_)
    exact hP _ _ h
def r_X11_told (S : St) (a1 : Int32) : Option Int32 :=
  if a1 = 0 then
    some (S.1 8 0)
  else
  if a1 = 1 then
    (r_X11_daysTold S).bind fun q1 =>
    some q1
  else
  if a1 = 2 then
    (r_X11_faceTold S).bind fun q2 =>
    some q2
  else
    some (-1)
set_option maxRecDepth 20000 in
set_option maxHeartbeats 4000000 in
theorem e_X11_told (d : Nat) (S : St) (hs : List Hr) (a1 : Int32) (v : Int32) (hr : r_X11_told S a1 = some v) (P : Option Value → Hp → Prop) (h : P (some (.int v)) (st S hs)) : Ev (d + 4) ix_X11_told 0 0 [.ref 7, .int a1] (st S hs) P := by
  refine Ev.intro (M := mi_X11_told) rfl (Nat.le_of_ble_eq_true rfl) ?_
  unfold r_X11_told at hr
  refine Wp.stepsG 2 (fun cal X P' hk hX hP => ?_)
  show (a1 = 0 → X (28, [some (.ref 7), some (.int a1)], [], st S hs, 0, 0)) ∧ (¬ a1 = 0 → (a1 = 1 → X (36, [some (.ref 7), some (.int a1)], [], st S hs, 0, 0)) ∧ (¬ a1 = 1 → (a1 = 2 → X (41, [some (.ref 7), some (.int a1)], [], st S hs, 0, 0)) ∧ (¬ a1 = 2 → X (46, [some (.ref 7), some (.int a1)], [], st S hs, 0, 0))))
  refine ⟨fun hc => hX _ ?_, fun hc => ?_⟩
  · clear hP hX hk P' X cal
    rw [if_pos hc] at hr
    have hr := Option.some.inj hr
    subst hr
    refine Wp.stepsG 4 (fun cal X P' hk hX hP => ?_)
    exact hP _ _ h
  · rw [if_neg hc] at hr
    refine ⟨fun hc => hX _ ?_, fun hc => ?_⟩
    · clear hP hX hk P' X cal
      rw [if_pos hc] at hr
      refine Wp.stepsG 2 (fun cal X P' hk hX hP => ?_)
      show kcall cal ix_X11_daysTold [.ref 7] (st S hs) [] 0 0 (0, 0) (fun v σ' c' m' => X (40, [some (.ref 7), some (.int a1)], v.toList ++ [], σ', c', m'))
      obtain ⟨q1, hq1, hr⟩ := bd_some hr
      refine kcall0 rfl (hk _ _ _ _ _ _ (e_X11_daysTold (d + 0) S hs q1 hq1 _ ?_))
      show X (40, [some (.ref 7), some (.int a1)], [.int q1], st S hs, 0, 0)
      refine hX _ ?_
      clear hP hX hk P' X cal
      have hr := Option.some.inj hr
      subst hr
      refine Wp.stepsG 1 (fun cal X P' hk hX hP => ?_)
      exact hP _ _ h
    · rw [if_neg hc] at hr
      refine ⟨fun hc => hX _ ?_, fun hc => hX _ ?_⟩
      · clear hP hX hk P' X cal
        rw [if_pos hc] at hr
        refine Wp.stepsG 2 (fun cal X P' hk hX hP => ?_)
        show kcall cal ix_X11_faceTold [.ref 7] (st S hs) [] 0 0 (0, 0) (fun v σ' c' m' => X (45, [some (.ref 7), some (.int a1)], v.toList ++ [], σ', c', m'))
        obtain ⟨q2, hq2, hr⟩ := bd_some hr
        refine kcall0 rfl (hk _ _ _ _ _ _ (e_X11_faceTold (d + 0) S hs q2 hq2 _ ?_))
        show X (45, [some (.ref 7), some (.int a1)], [.int q2], st S hs, 0, 0)
        refine hX _ ?_
        clear hP hX hk P' X cal
        have hr := Option.some.inj hr
        subst hr
        refine Wp.stepsG 1 (fun cal X P' hk hX hP => ?_)
        exact hP _ _ h
      · rw [if_neg hc] at hr
        clear hP hX hk P' X cal
        have hr := Option.some.inj hr
        subst hr
        refine Wp.stepsG 2 (fun cal X P' hk hX hP => ?_)
        exact hP _ _ h
def r_X11_pass (S : St) (a1 : Int32) : Option (Int32 × St) :=
  if (r_X11_within a1 0 99) = 0 then
    some ((-2), S)
  else
    if ((S.1 8 0) + a1) ≤ 9999 then
      some ((S.1 8 0) + a1, sI S 8 0 ((S.1 8 0) + a1))
    else
      some ((-3), S)
set_option maxRecDepth 20000 in
set_option maxHeartbeats 4000000 in
theorem e_X11_pass (d : Nat) (S : St) (hs : List Hr) (a1 : Int32) (v : Int32 × St) (hr : r_X11_pass S a1 = some v) (P : Option Value → Hp → Prop) (h : P (some (.int v.1)) (st v.2 hs)) : Ev (d + 2) ix_X11_pass 0 0 [.ref 7, .int a1] (st S hs) P := by
  refine Ev.intro (M := mi_X11_pass) rfl (Nat.le_of_ble_eq_true rfl) ?_
  unfold r_X11_pass at hr
  refine Wp.stepsG 4 (fun cal X P' hk hX hP => ?_)
  show kcall cal ix_X11_within [.int a1, .int 0, .int 99] (st S hs) [] 0 0 (0, 0) (fun v σ' c' m' => X (7, [some (.ref 7), some (.int a1)], v.toList ++ [], σ', c', m'))
  refine kcall0 rfl (hk _ _ _ _ _ _ (e_X11_within (d + 0) S hs a1 0 99 _ ?_))
  show X (7, [some (.ref 7), some (.int a1)], [.int (r_X11_within a1 0 99)], st S hs, 0, 0)
  refine hX _ ?_
  clear hP hX hk P' X cal
  refine Wp.stepsG 1 (fun cal X P' hk hX hP => ?_)
  show (¬ (r_X11_within a1 0 99) = 0 → X (13, [some (.ref 7), some (.int a1)], [], st S hs, 0, 0)) ∧ ((r_X11_within a1 0 99) = 0 → X (10, [some (.ref 7), some (.int a1)], [], st S hs, 0, 0))
  refine ⟨fun hc => hX _ ?_, fun hc => hX _ ?_⟩
  · clear hP hX hk P' X cal
    rw [if_neg hc] at hr
    refine Wp.stepsG 7 (fun cal X P' hk hX hP => ?_)
    show (((S.1 8 0) + a1) ≤ 9999 → X (31, [some (.ref 7), some (.int a1)], [], st S hs, 0, 0)) ∧ (¬ ((S.1 8 0) + a1) ≤ 9999 → X (28, [some (.ref 7), some (.int a1)], [], st S hs, 0, 0))
    refine ⟨fun hc => hX _ ?_, fun hc => hX _ ?_⟩
    · clear hP hX hk P' X cal
      rw [if_pos hc] at hr
      have hr := Option.some.inj hr
      subst hr
      refine Wp.stepsG 11 (fun cal X P' hk hX hP => ?_)
      exact hP _ _ h
    · clear hP hX hk P' X cal
      rw [if_neg hc] at hr
      have hr := Option.some.inj hr
      subst hr
      refine Wp.stepsG 2 (fun cal X P' hk hX hP => ?_)
      exact hP _ _ h
  · clear hP hX hk P' X cal
    rw [if_pos hc] at hr
    have hr := Option.some.inj hr
    subst hr
    refine Wp.stepsG 2 (fun cal X P' hk hX hP => ?_)
    exact hP _ _ h
def r_X11_everybody (S : St) : Int32 :=
  ((1 : Int32) <<< ((S.1 8 3) &&& 31)) - 1
set_option maxRecDepth 20000 in
set_option maxHeartbeats 4000000 in
theorem e_X11_everybody (d : Nat) (S : St) (hs : List Hr) (P : Option Value → Hp → Prop) (h : P (some (.int (r_X11_everybody S))) (st S hs)) : Ev (d + 1) ix_X11_everybody 0 0 [.ref 7] (st S hs) P := by
  refine Ev.intro (M := mi_X11_everybody) rfl (Nat.le_of_ble_eq_true rfl) ?_
  unfold r_X11_everybody at h
  refine Wp.stepsG 8 (fun cal X P' hk hX hP => ?_)
  exact hP _ _ h
def r_X11_isTable (S : St) (a1 : Int32) : Int32 :=
  r_X11_within a1 0 (r_X11_everybody S)
theorem b_X11_isTable (S : St) (a1 : Int32) : r_X11_isTable S a1 = 0 ∨ r_X11_isTable S a1 = 1 := by
  unfold r_X11_isTable
  (repeat' split) <;> first | exact Or.inl rfl | exact Or.inr rfl | exact b_X11_within a1 0 (r_X11_everybody S)
set_option maxRecDepth 20000 in
set_option maxHeartbeats 4000000 in
theorem e_X11_isTable (d : Nat) (S : St) (hs : List Hr) (a1 : Int32) (P : Option Value → Hp → Prop) (h : P (some (.int (r_X11_isTable S a1))) (st S hs)) : Ev (d + 2) ix_X11_isTable 0 0 [.ref 7, .int a1] (st S hs) P := by
  refine Ev.intro (M := mi_X11_isTable) rfl (Nat.le_of_ble_eq_true rfl) ?_
  unfold r_X11_isTable at h
  refine Wp.stepsG 4 (fun cal X P' hk hX hP => ?_)
  show kcall cal ix_X11_everybody [.ref 7] (st S hs) [.int 0, .int a1] 0 0 (0, 0) (fun v σ' c' m' => X (6, [some (.ref 7), some (.int a1)], v.toList ++ [.int 0, .int a1], σ', c', m'))
  refine kcall0 rfl (hk _ _ _ _ _ _ (e_X11_everybody (d + 0) S hs _ ?_))
  show X (6, [some (.ref 7), some (.int a1)], [.int (r_X11_everybody S), .int 0, .int a1], st S hs, 0, 0)
  refine hX _ ?_
  clear hP hX hk P' X cal
  refine Wp.stepsG 1 (fun cal X P' hk hX hP => ?_)
  show kcall cal ix_X11_within [.int a1, .int 0, .int (r_X11_everybody S)] (st S hs) [] 0 0 (0, 0) (fun v σ' c' m' => X (9, [some (.ref 7), some (.int a1)], v.toList ++ [], σ', c', m'))
  refine kcall0 rfl (hk _ _ _ _ _ _ (e_X11_within (d + 0) S hs a1 0 (r_X11_everybody S) _ ?_))
  show X (9, [some (.ref 7), some (.int a1)], [.int (r_X11_within a1 0 (r_X11_everybody S))], st S hs, 0, 0)
  refine hX _ ?_
  clear hP hX hk P' X cal
  refine Wp.stepsG 1 (fun cal X P' hk hX hP => ?_)
  exact ⟨b_X11_within a1 0 (r_X11_everybody S), hP _ _ h⟩
def lp_X11_bestBeside_4 (S : St) (f1 : Int32) : Nat → Int32 → Int32 → Option (Int32)
  | 0, _, _ => none
  | n + 1, v2, v3 =>
    if (S.1 8 2) ≤ v3 then
      some v2
    else
      if (r_X11_in f1 v3) = 0 then
        if v2 < 0 then
          lp_X11_bestBeside_4 S f1 n v3 (v3 + 1)
        else
          gd (¬ (v3 < 0 ∨ 8 ≤ v3.toNatClampNeg)) (
            gd (¬ (v2 < 0 ∨ 8 ≤ v2.toNatClampNeg)) (
              if ((S.1 34) v3.toNatClampNeg) ≤ ((S.1 34) v2.toNatClampNeg) then
                lp_X11_bestBeside_4 S f1 n v2 (v3 + 1)
              else
                lp_X11_bestBeside_4 S f1 n v3 (v3 + 1)))
      else
        lp_X11_bestBeside_4 S f1 n v2 (v3 + 1)
set_option maxRecDepth 20000 in
set_option maxHeartbeats 4000000 in
theorem e_lp_X11_bestBeside_4 (d : Nat) (hs : List Hr) (P : Option Value → Hp → Prop) (S : St) (f1 : Int32) : ∀ (n : Nat) (v2 : Int32) (v3 : Int32) (q : Int32), lp_X11_bestBeside_4 S f1 n v2 v3 = some q → (WM mi_X11_bestBeside (d + 1) P 50 [some (.ref 7), some (.int f1), some (.int q), none] [] (st S hs)) → WM mi_X11_bestBeside (d + 1) P 4 [some (.ref 7), some (.int f1), some (.int v2), some (.int v3)] [] (st S hs) := by
  intro n
  induction n with
  | zero =>
    intro v2 v3 q hl
    cases hl
  | succ n ih =>
    intro v2 v3 q hl ct
    rw [lp_X11_bestBeside_4] at hl
    refine Wp.stepsG 5 (fun cal X P' hk hX hP => ?_)
    show ((S.1 8 2) ≤ v3 → X (50, [some (.ref 7), some (.int f1), some (.int v2), some (.int v3)], [], st S hs, 0, 0)) ∧ (¬ (S.1 8 2) ≤ v3 → X (15, [some (.ref 7), some (.int f1), some (.int v2), some (.int v3)], [], st S hs, 0, 0))
    refine ⟨fun hc => hX _ ?_, fun hc => hX _ ?_⟩
    · clear hP hX hk P' X cal
      rw [if_pos hc] at hl
      have hl := Option.some.inj hl
      subst hl
      exact Wp.weak (leL.k (leL.k (leL.k (leL.n leL.z)))) (ct)
    · clear hP hX hk P' X cal
      rw [if_neg hc] at hl
      refine Wp.stepsG 3 (fun cal X P' hk hX hP => ?_)
      show kcall cal ix_X11_in [.int f1, .int v3] (st S hs) [] 0 0 (0, 0) (fun v σ' c' m' => X (20, [some (.ref 7), some (.int f1), some (.int v2), some (.int v3)], v.toList ++ [], σ', c', m'))
      refine kcall0 rfl (hk _ _ _ _ _ _ (e_X11_in (d + 0) S hs f1 v3 _ ?_))
      show X (20, [some (.ref 7), some (.int f1), some (.int v2), some (.int v3)], [.int (r_X11_in f1 v3)], st S hs, 0, 0)
      refine hX _ ?_
      clear hP hX hk P' X cal
      refine Wp.stepsG 1 (fun cal X P' hk hX hP => ?_)
      show (¬ (r_X11_in f1 v3) = 0 → X (44, [some (.ref 7), some (.int f1), some (.int v2), some (.int v3)], [], st S hs, 0, 0)) ∧ ((r_X11_in f1 v3) = 0 → X (23, [some (.ref 7), some (.int f1), some (.int v2), some (.int v3)], [], st S hs, 0, 0))
      refine ⟨fun hc => hX _ ?_, fun hc => hX _ ?_⟩
      · clear hP hX hk P' X cal
        rw [if_neg hc] at hl
        refine Wp.stepsG 2 (fun cal X P' hk hX hP => ?_)
        show X (4, [some (.ref 7), some (.int f1), some (.int v2), some (.int (v3 + 1))], [], st S hs, 0, 0)
        refine hX _ ?_
        exact (ih v2 (v3 + 1) q hl ct)
      · clear hP hX hk P' X cal
        rw [if_pos hc] at hl
        refine Wp.stepsG 2 (fun cal X P' hk hX hP => ?_)
        show (v2 < 0 → X (42, [some (.ref 7), some (.int f1), some (.int v2), some (.int v3)], [], st S hs, 0, 0)) ∧ (¬ v2 < 0 → X (27, [some (.ref 7), some (.int f1), some (.int v2), some (.int v3)], [], st S hs, 0, 0))
        refine ⟨fun hc => hX _ ?_, fun hc => hX _ ?_⟩
        · clear hP hX hk P' X cal
          rw [if_pos hc] at hl
          refine Wp.stepsG 4 (fun cal X P' hk hX hP => ?_)
          show X (4, [some (.ref 7), some (.int f1), some (.int v3), some (.int (v3 + 1))], [], st S hs, 0, 0)
          refine hX _ ?_
          exact (ih v3 (v3 + 1) q hl ct)
        · clear hP hX hk P' X cal
          rw [if_neg hc] at hl
          refine Wp.stepsG 4 (fun cal X P' hk hX hP => ?_)
          show vp_in v3 8 ∧ X (33, [some (.ref 7), some (.int f1), some (.int v2), some (.int v3)], [.int ((S.1 34) v3.toNatClampNeg)], st S hs, 0, 0)
          obtain ⟨hg, hl⟩ := gd_some hl
          refine ⟨hg, hX _ ?_⟩
          clear hP hX hk P' X cal
          refine Wp.stepsG 4 (fun cal X P' hk hX hP => ?_)
          show vp_in v2 8 ∧ X (39, [some (.ref 7), some (.int f1), some (.int v2), some (.int v3)], [.int ((S.1 34) v2.toNatClampNeg), .int ((S.1 34) v3.toNatClampNeg)], st S hs, 0, 0)
          obtain ⟨hg, hl⟩ := gd_some hl
          refine ⟨hg, hX _ ?_⟩
          clear hP hX hk P' X cal
          refine Wp.stepsG 1 (fun cal X P' hk hX hP => ?_)
          show (((S.1 34) v3.toNatClampNeg) ≤ ((S.1 34) v2.toNatClampNeg) → X (44, [some (.ref 7), some (.int f1), some (.int v2), some (.int v3)], [], st S hs, 0, 0)) ∧ (¬ ((S.1 34) v3.toNatClampNeg) ≤ ((S.1 34) v2.toNatClampNeg) → X (42, [some (.ref 7), some (.int f1), some (.int v2), some (.int v3)], [], st S hs, 0, 0))
          refine ⟨fun hc => hX _ ?_, fun hc => hX _ ?_⟩
          · clear hP hX hk P' X cal
            rw [if_pos hc] at hl
            refine Wp.stepsG 2 (fun cal X P' hk hX hP => ?_)
            show X (4, [some (.ref 7), some (.int f1), some (.int v2), some (.int (v3 + 1))], [], st S hs, 0, 0)
            refine hX _ ?_
            exact (ih v2 (v3 + 1) q hl ct)
          · clear hP hX hk P' X cal
            rw [if_neg hc] at hl
            refine Wp.stepsG 4 (fun cal X P' hk hX hP => ?_)
            show X (4, [some (.ref 7), some (.int f1), some (.int v3), some (.int (v3 + 1))], [], st S hs, 0, 0)
            refine hX _ ?_
            exact (ih v3 (v3 + 1) q hl ct)
def r_X11_bestBeside (S : St) (a1 : Int32) : Option Int32 :=
  (lp_X11_bestBeside_4 S a1 4000 (-1) 0).bind fun q1 =>
    some q1
set_option maxRecDepth 20000 in
set_option maxHeartbeats 4000000 in
theorem e_X11_bestBeside (d : Nat) (S : St) (hs : List Hr) (a1 : Int32) (v : Int32) (hr : r_X11_bestBeside S a1 = some v) (P : Option Value → Hp → Prop) (h : P (some (.int v)) (st S hs)) : Ev (d + 2) ix_X11_bestBeside 0 0 [.ref 7, .int a1] (st S hs) P := by
  refine Ev.intro (M := mi_X11_bestBeside) rfl (Nat.le_of_ble_eq_true rfl) ?_
  unfold r_X11_bestBeside at hr
  refine Wp.stepsG 4 (fun cal X P' hk hX hP => ?_)
  show X (4, [some (.ref 7), some (.int a1), some (.int (-1)), some (.int 0)], [], st S hs, 0, 0)
  refine hX _ ?_
  clear hP hX hk P' X cal
  obtain ⟨q1, hq1, hr⟩ := bd_some hr
  refine (e_lp_X11_bestBeside_4 d hs P S a1 _ (-1) 0 q1 hq1 ?_)
  have hr := Option.some.inj hr
  subst hr
  refine Wp.stepsG 2 (fun cal X P' hk hX hP => ?_)
  exact hP _ _ h
def r_X11_supperPlace (a1 : Int32) (a2 : Int32) (a3 : Int32) : Int32 :=
  (((a1 * 8) + a2) * 4) + a3
set_option maxRecDepth 20000 in
set_option maxHeartbeats 4000000 in
theorem e_X11_supperPlace (d : Nat) (S : St) (hs : List Hr) (a1 : Int32) (a2 : Int32) (a3 : Int32) (P : Option Value → Hp → Prop) (h : P (some (.int (r_X11_supperPlace a1 a2 a3))) (st S hs)) : Ev (d + 1) ix_X11_supperPlace 0 0 [.int a1, .int a2, .int a3] (st S hs) P := by
  refine Ev.intro (M := mi_X11_supperPlace) rfl (Nat.le_of_ble_eq_true rfl) ?_
  unfold r_X11_supperPlace at h
  refine Wp.stepsG 10 (fun cal X P' hk hX hP => ?_)
  exact hP _ _ h
def r_X11_storyInRow (a1 : Int32) (a2 : Int32) (a3 : Int32) : Int32 :=
  (a1 >>> (((3 : Int32) * ((a2 - 1) - a3)) &&& 31)) &&& 7
set_option maxRecDepth 20000 in
set_option maxHeartbeats 4000000 in
theorem e_X11_storyInRow (d : Nat) (S : St) (hs : List Hr) (a1 : Int32) (a2 : Int32) (a3 : Int32) (P : Option Value → Hp → Prop) (h : P (some (.int (r_X11_storyInRow a1 a2 a3))) (st S hs)) : Ev (d + 1) ix_X11_storyInRow 0 0 [.int a1, .int a2, .int a3] (st S hs) P := by
  refine Ev.intro (M := mi_X11_storyInRow) rfl (Nat.le_of_ble_eq_true rfl) ?_
  unfold r_X11_storyInRow at h
  refine Wp.stepsG 12 (fun cal X P' hk hX hP => ?_)
  exact hP _ _ h
def lp_X11_worthOfRow_38 (f1 : Int32) (f2 : Int32) (f3 : Int32) (f4 : Int32) (f5 : Int32) : Nat → Int32 → Int32 → Option (Int32)
  | 0, _, _ => none
  | n + 1, v6, v7 =>
    if f4 ≤ v7 then
      some v6
    else
      if (r_X11_storyInRow f1 f2 v7) = f5 then
        lp_X11_worthOfRow_38 f1 f2 f3 f4 f5 n (v6 ||| ((1 : Int32) <<< (v7 &&& 31))) (v7 + 1)
      else
        lp_X11_worthOfRow_38 f1 f2 f3 f4 f5 n v6 (v7 + 1)
set_option maxRecDepth 20000 in
set_option maxHeartbeats 4000000 in
theorem e_lp_X11_worthOfRow_38 (d : Nat) (hs : List Hr) (P : Option Value → Hp → Prop) (S : St) (f1 : Int32) (f2 : Int32) (f3 : Int32) (f4 : Int32) (f5 : Int32) : ∀ (n : Nat) (v6 : Int32) (v7 : Int32) (q : Int32), lp_X11_worthOfRow_38 f1 f2 f3 f4 f5 n v6 v7 = some q → (WM mi_X11_worthOfRow (d + 2) P 72 [some (.ref 7), some (.int f1), some (.int f2), some (.int f3), some (.int f4), some (.int f5), some (.int q), none] [] (st S hs)) → WM mi_X11_worthOfRow (d + 2) P 38 [some (.ref 7), some (.int f1), some (.int f2), some (.int f3), some (.int f4), some (.int f5), some (.int v6), some (.int v7)] [] (st S hs) := by
  intro n
  induction n with
  | zero =>
    intro v6 v7 q hl
    cases hl
  | succ n ih =>
    intro v6 v7 q hl ct
    rw [lp_X11_worthOfRow_38] at hl
    refine Wp.stepsG 3 (fun cal X P' hk hX hP => ?_)
    show (f4 ≤ v7 → X (72, [some (.ref 7), some (.int f1), some (.int f2), some (.int f3), some (.int f4), some (.int f5), some (.int v6), some (.int v7)], [], st S hs, 0, 0)) ∧ (¬ f4 ≤ v7 → X (45, [some (.ref 7), some (.int f1), some (.int f2), some (.int f3), some (.int f4), some (.int f5), some (.int v6), some (.int v7)], [], st S hs, 0, 0))
    refine ⟨fun hc => hX _ ?_, fun hc => hX _ ?_⟩
    · clear hP hX hk P' X cal
      rw [if_pos hc] at hl
      have hl := Option.some.inj hl
      subst hl
      exact Wp.weak (leL.k (leL.k (leL.k (leL.k (leL.k (leL.k (leL.k (leL.n leL.z)))))))) (ct)
    · clear hP hX hk P' X cal
      rw [if_neg hc] at hl
      refine Wp.stepsG 4 (fun cal X P' hk hX hP => ?_)
      show kcall cal ix_X11_storyInRow [.int f1, .int f2, .int v7] (st S hs) [] 0 0 (0, 0) (fun v σ' c' m' => X (52, [some (.ref 7), some (.int f1), some (.int f2), some (.int f3), some (.int f4), some (.int f5), some (.int v6), some (.int v7)], v.toList ++ [], σ', c', m'))
      refine kcall0 rfl (hk _ _ _ _ _ _ (e_X11_storyInRow (d + 1) S hs f1 f2 v7 _ ?_))
      show X (52, [some (.ref 7), some (.int f1), some (.int f2), some (.int f3), some (.int f4), some (.int f5), some (.int v6), some (.int v7)], [.int (r_X11_storyInRow f1 f2 v7)], st S hs, 0, 0)
      refine hX _ ?_
      clear hP hX hk P' X cal
      refine Wp.stepsG 2 (fun cal X P' hk hX hP => ?_)
      show (¬ (r_X11_storyInRow f1 f2 v7) = f5 → X (66, [some (.ref 7), some (.int f1), some (.int f2), some (.int f3), some (.int f4), some (.int f5), some (.int v6), some (.int v7)], [], st S hs, 0, 0)) ∧ ((r_X11_storyInRow f1 f2 v7) = f5 → X (57, [some (.ref 7), some (.int f1), some (.int f2), some (.int f3), some (.int f4), some (.int f5), some (.int v6), some (.int v7)], [], st S hs, 0, 0))
      refine ⟨fun hc => hX _ ?_, fun hc => hX _ ?_⟩
      · clear hP hX hk P' X cal
        rw [if_neg hc] at hl
        refine Wp.stepsG 2 (fun cal X P' hk hX hP => ?_)
        show X (38, [some (.ref 7), some (.int f1), some (.int f2), some (.int f3), some (.int f4), some (.int f5), some (.int v6), some (.int (v7 + 1))], [], st S hs, 0, 0)
        refine hX _ ?_
        exact (ih v6 (v7 + 1) q hl ct)
      · clear hP hX hk P' X cal
        rw [if_pos hc] at hl
        refine Wp.stepsG 8 (fun cal X P' hk hX hP => ?_)
        show X (38, [some (.ref 7), some (.int f1), some (.int f2), some (.int f3), some (.int f4), some (.int f5), some (.int (v6 ||| ((1 : Int32) <<< (v7 &&& 31)))), some (.int (v7 + 1))], [], st S hs, 0, 0)
        refine hX _ ?_
        exact (ih (v6 ||| ((1 : Int32) <<< (v7 &&& 31))) (v7 + 1) q hl ct)
def lp_X11_worthOfRow_5 (S : St) (f1 : Int32) (f2 : Int32) : Nat → Int32 → Int32 → Option (Nat × Int32)
  | 0, _, _ => none
  | n + 1, v3, v4 =>
    if f2 ≤ v4 then
      some (1, v3)
    else
      if (r_X11_isStory S (r_X11_storyInRow f1 f2 v4)) = 0 then
        some (0, v3)
      else
        (lp_X11_worthOfRow_38 f1 f2 v3 v4 (r_X11_storyInRow f1 f2 v4) 4000 0 0).bind fun q1 =>
          gd (¬ ((r_X11_supperPlace v4 (r_X11_storyInRow f1 f2 v4) q1) < 0 ∨ 96 ≤ (r_X11_supperPlace v4 (r_X11_storyInRow f1 f2 v4) q1).toNatClampNeg)) (
            lp_X11_worthOfRow_5 S f1 f2 n (v3 + ((S.1 37) (r_X11_supperPlace v4 (r_X11_storyInRow f1 f2 v4) q1).toNatClampNeg)) (v4 + 1))
set_option maxRecDepth 20000 in
set_option maxHeartbeats 4000000 in
theorem e_lp_X11_worthOfRow_5 (d : Nat) (hs : List Hr) (P : Option Value → Hp → Prop) (S : St) (f1 : Int32) (f2 : Int32) : ∀ (n : Nat) (v3 : Int32) (v4 : Int32) (q : Nat × Int32), lp_X11_worthOfRow_5 S f1 f2 n v3 v4 = some q → (q.1 = 0 → WM mi_X11_worthOfRow (d + 2) P 29 [some (.ref 7), some (.int f1), some (.int f2), none, none, none, none, none] [] (st S hs)) ∧ (q.1 = 1 → WM mi_X11_worthOfRow (d + 2) P 95 [some (.ref 7), some (.int f1), some (.int f2), some (.int q.2), none, none, none, none] [] (st S hs)) → WM mi_X11_worthOfRow (d + 2) P 5 [some (.ref 7), some (.int f1), some (.int f2), some (.int v3), some (.int v4), none, none, none] [] (st S hs) := by
  intro n
  induction n with
  | zero =>
    intro v3 v4 q hl
    cases hl
  | succ n ih =>
    intro v3 v4 q hl ct
    rw [lp_X11_worthOfRow_5] at hl
    refine Wp.stepsG 3 (fun cal X P' hk hX hP => ?_)
    show (f2 ≤ v4 → X (95, [some (.ref 7), some (.int f1), some (.int f2), some (.int v3), some (.int v4), none, none, none], [], st S hs, 0, 0)) ∧ (¬ f2 ≤ v4 → X (11, [some (.ref 7), some (.int f1), some (.int f2), some (.int v3), some (.int v4), none, none, none], [], st S hs, 0, 0))
    refine ⟨fun hc => hX _ ?_, fun hc => hX _ ?_⟩
    · clear hP hX hk P' X cal
      rw [if_pos hc] at hl
      have hl := Option.some.inj hl
      subst hl
      exact Wp.weak (leL.k (leL.k (leL.k (leL.k (leL.n (leL.k (leL.k (leL.k leL.z)))))))) (ct.2 rfl)
    · clear hP hX hk P' X cal
      rw [if_neg hc] at hl
      refine Wp.stepsG 4 (fun cal X P' hk hX hP => ?_)
      show kcall cal ix_X11_storyInRow [.int f1, .int f2, .int v4] (st S hs) [] 0 0 (0, 0) (fun v σ' c' m' => X (18, [some (.ref 7), some (.int f1), some (.int f2), some (.int v3), some (.int v4), none, none, none], v.toList ++ [], σ', c', m'))
      refine kcall0 rfl (hk _ _ _ _ _ _ (e_X11_storyInRow (d + 1) S hs f1 f2 v4 _ ?_))
      show X (18, [some (.ref 7), some (.int f1), some (.int f2), some (.int v3), some (.int v4), none, none, none], [.int (r_X11_storyInRow f1 f2 v4)], st S hs, 0, 0)
      refine hX _ ?_
      clear hP hX hk P' X cal
      refine Wp.stepsG 4 (fun cal X P' hk hX hP => ?_)
      show kcall cal ix_X11_isStory [.ref 7, .int (r_X11_storyInRow f1 f2 v4)] (st S hs) [] 0 0 (0, 0) (fun v σ' c' m' => X (26, [some (.ref 7), some (.int f1), some (.int f2), some (.int v3), some (.int v4), some (.int (r_X11_storyInRow f1 f2 v4)), none, none], v.toList ++ [], σ', c', m'))
      refine kcall0 rfl (hk _ _ _ _ _ _ (e_X11_isStory (d + 0) S hs (r_X11_storyInRow f1 f2 v4) _ ?_))
      show X (26, [some (.ref 7), some (.int f1), some (.int f2), some (.int v3), some (.int v4), some (.int (r_X11_storyInRow f1 f2 v4)), none, none], [.int (r_X11_isStory S (r_X11_storyInRow f1 f2 v4))], st S hs, 0, 0)
      refine hX _ ?_
      clear hP hX hk P' X cal
      refine Wp.stepsG 1 (fun cal X P' hk hX hP => ?_)
      show (¬ (r_X11_isStory S (r_X11_storyInRow f1 f2 v4)) = 0 → X (32, [some (.ref 7), some (.int f1), some (.int f2), some (.int v3), some (.int v4), some (.int (r_X11_storyInRow f1 f2 v4)), none, none], [], st S hs, 0, 0)) ∧ ((r_X11_isStory S (r_X11_storyInRow f1 f2 v4)) = 0 → X (29, [some (.ref 7), some (.int f1), some (.int f2), some (.int v3), some (.int v4), some (.int (r_X11_storyInRow f1 f2 v4)), none, none], [], st S hs, 0, 0))
      refine ⟨fun hc => hX _ ?_, fun hc => hX _ ?_⟩
      · clear hP hX hk P' X cal
        rw [if_neg hc] at hl
        refine Wp.stepsG 4 (fun cal X P' hk hX hP => ?_)
        show X (38, [some (.ref 7), some (.int f1), some (.int f2), some (.int v3), some (.int v4), some (.int (r_X11_storyInRow f1 f2 v4)), some (.int 0), some (.int 0)], [], st S hs, 0, 0)
        refine hX _ ?_
        clear hP hX hk P' X cal
        obtain ⟨q1, hq1, hl⟩ := bd_some hl
        refine (e_lp_X11_worthOfRow_38 d hs P S f1 f2 v3 v4 (r_X11_storyInRow f1 f2 v4) _ 0 0 q1 hq1 ?_)
        refine Wp.stepsG 7 (fun cal X P' hk hX hP => ?_)
        show kcall cal ix_X11_supperPlace [.int v4, .int (r_X11_storyInRow f1 f2 v4), .int q1] (st S hs) [.ref 37, .int v3] 0 0 (0, 0) (fun v σ' c' m' => X (86, [some (.ref 7), some (.int f1), some (.int f2), some (.int v3), some (.int v4), some (.int (r_X11_storyInRow f1 f2 v4)), some (.int q1), none], v.toList ++ [.ref 37, .int v3], σ', c', m'))
        refine kcall0 rfl (hk _ _ _ _ _ _ (e_X11_supperPlace (d + 1) S hs v4 (r_X11_storyInRow f1 f2 v4) q1 _ ?_))
        show X (86, [some (.ref 7), some (.int f1), some (.int f2), some (.int v3), some (.int v4), some (.int (r_X11_storyInRow f1 f2 v4)), some (.int q1), none], [.int (r_X11_supperPlace v4 (r_X11_storyInRow f1 f2 v4) q1), .ref 37, .int v3], st S hs, 0, 0)
        refine hX _ ?_
        clear hP hX hk P' X cal
        refine Wp.stepsG 1 (fun cal X P' hk hX hP => ?_)
        show vp_in (r_X11_supperPlace v4 (r_X11_storyInRow f1 f2 v4) q1) 96 ∧ X (87, [some (.ref 7), some (.int f1), some (.int f2), some (.int v3), some (.int v4), some (.int (r_X11_storyInRow f1 f2 v4)), some (.int q1), none], [.int ((S.1 37) (r_X11_supperPlace v4 (r_X11_storyInRow f1 f2 v4) q1).toNatClampNeg), .int v3], st S hs, 0, 0)
        obtain ⟨hg, hl⟩ := gd_some hl
        refine ⟨hg, hX _ ?_⟩
        clear hP hX hk P' X cal
        refine Wp.stepsG 4 (fun cal X P' hk hX hP => ?_)
        show X (5, [some (.ref 7), some (.int f1), some (.int f2), some (.int (v3 + ((S.1 37) (r_X11_supperPlace v4 (r_X11_storyInRow f1 f2 v4) q1).toNatClampNeg))), some (.int (v4 + 1)), some (.int (r_X11_storyInRow f1 f2 v4)), some (.int q1), none], [], st S hs, 0, 0)
        refine hX _ ?_
        exact Wp.weak (leL.k (leL.k (leL.k (leL.k (leL.k (leL.n (leL.n (leL.k leL.z)))))))) (ih (v3 + ((S.1 37) (r_X11_supperPlace v4 (r_X11_storyInRow f1 f2 v4) q1).toNatClampNeg)) (v4 + 1) q hl ct)
      · clear hP hX hk P' X cal
        rw [if_pos hc] at hl
        have hl := Option.some.inj hl
        subst hl
        exact Wp.weak (leL.k (leL.k (leL.k (leL.n (leL.n (leL.n (leL.k (leL.k leL.z)))))))) (ct.1 rfl)
def r_X11_worthOfRow (S : St) (a1 : Int32) (a2 : Int32) : Option Int32 :=
  (lp_X11_worthOfRow_5 S a1 a2 4000 0 0).bind fun q2 =>
  if q2.1 = 0 then
    some (-1000000)
  else
    some q2.2
set_option maxRecDepth 20000 in
set_option maxHeartbeats 4000000 in
theorem e_X11_worthOfRow (d : Nat) (S : St) (hs : List Hr) (a1 : Int32) (a2 : Int32) (v : Int32) (hr : r_X11_worthOfRow S a1 a2 = some v) (P : Option Value → Hp → Prop) (h : P (some (.int v)) (st S hs)) : Ev (d + 3) ix_X11_worthOfRow 0 0 [.ref 7, .int a1, .int a2] (st S hs) P := by
  refine Ev.intro (M := mi_X11_worthOfRow) rfl (Nat.le_of_ble_eq_true rfl) ?_
  unfold r_X11_worthOfRow at hr
  refine Wp.stepsG 4 (fun cal X P' hk hX hP => ?_)
  show X (5, [some (.ref 7), some (.int a1), some (.int a2), some (.int 0), some (.int 0), none, none, none], [], st S hs, 0, 0)
  refine hX _ ?_
  clear hP hX hk P' X cal
  obtain ⟨q2, hq2, hr⟩ := bd_some hr
  refine (e_lp_X11_worthOfRow_5 d hs P S a1 a2 _ 0 0 q2 hq2 ?_)
  refine ⟨fun hc => ?_, fun hc => ?_⟩
  · have hcc := hc
    rw [if_pos hcc] at hr
    have hr := Option.some.inj hr
    subst hr
    refine Wp.stepsG 2 (fun cal X P' hk hX hP => ?_)
    exact hP _ _ h
  · have hcc := hc
    rw [if_neg (fun z => by rw [z] at hcc; exact absurd hcc (by decide))] at hr
    have hr := Option.some.inj hr
    subst hr
    refine Wp.stepsG 2 (fun cal X P' hk hX hP => ?_)
    exact hP _ _ h
def lp_X11_servedBy_13 (S : St) (f1 : Int32) (f2 : Int32) : Nat → Int32 → Int32 → Option (Int32)
  | 0, _, _ => none
  | n + 1, v3, v4 =>
    if f2 ≤ v4 then
      some v3
    else
      if f2 ≤ (v4 + 1) then
        if v4 ≤ 0 then
          gd (¬ ((f2 - 1) < 0 ∨ 6 ≤ (f2 - 1).toNatClampNeg)) (
            gd (¬ (v4 < 0 ∨ 6 ≤ v4.toNatClampNeg)) (
              if (r_X11_in f1 ((S.1 38) v4.toNatClampNeg)) = 0 then
                if (r_X11_in f1 ((S.1 38) (f2 - 1).toNatClampNeg)) = 0 then
                  if (r_X11_in f1 ((S.1 38) (0 : Int32).toNatClampNeg)) = 0 then
                    lp_X11_servedBy_13 S f1 f2 n v3 (v4 + 1)
                  else
                    lp_X11_servedBy_13 S f1 f2 n (v3 + 1) (v4 + 1)
                else
                  lp_X11_servedBy_13 S f1 f2 n (v3 + 1) (v4 + 1)
              else
                lp_X11_servedBy_13 S f1 f2 n v3 (v4 + 1)))
        else
          gd (¬ ((v4 - 1) < 0 ∨ 6 ≤ (v4 - 1).toNatClampNeg)) (
            gd (¬ (v4 < 0 ∨ 6 ≤ v4.toNatClampNeg)) (
              if (r_X11_in f1 ((S.1 38) v4.toNatClampNeg)) = 0 then
                if (r_X11_in f1 ((S.1 38) (v4 - 1).toNatClampNeg)) = 0 then
                  if (r_X11_in f1 ((S.1 38) (0 : Int32).toNatClampNeg)) = 0 then
                    lp_X11_servedBy_13 S f1 f2 n v3 (v4 + 1)
                  else
                    lp_X11_servedBy_13 S f1 f2 n (v3 + 1) (v4 + 1)
                else
                  lp_X11_servedBy_13 S f1 f2 n (v3 + 1) (v4 + 1)
              else
                lp_X11_servedBy_13 S f1 f2 n v3 (v4 + 1)))
      else
        gd (¬ ((v4 + 1) < 0 ∨ 6 ≤ (v4 + 1).toNatClampNeg)) (
          if v4 ≤ 0 then
            gd (¬ ((f2 - 1) < 0 ∨ 6 ≤ (f2 - 1).toNatClampNeg)) (
              gd (¬ (v4 < 0 ∨ 6 ≤ v4.toNatClampNeg)) (
                if (r_X11_in f1 ((S.1 38) v4.toNatClampNeg)) = 0 then
                  if (r_X11_in f1 ((S.1 38) (f2 - 1).toNatClampNeg)) = 0 then
                    if (r_X11_in f1 ((S.1 38) (v4 + 1).toNatClampNeg)) = 0 then
                      lp_X11_servedBy_13 S f1 f2 n v3 (v4 + 1)
                    else
                      lp_X11_servedBy_13 S f1 f2 n (v3 + 1) (v4 + 1)
                  else
                    lp_X11_servedBy_13 S f1 f2 n (v3 + 1) (v4 + 1)
                else
                  lp_X11_servedBy_13 S f1 f2 n v3 (v4 + 1)))
          else
            gd (¬ ((v4 - 1) < 0 ∨ 6 ≤ (v4 - 1).toNatClampNeg)) (
              gd (¬ (v4 < 0 ∨ 6 ≤ v4.toNatClampNeg)) (
                if (r_X11_in f1 ((S.1 38) v4.toNatClampNeg)) = 0 then
                  if (r_X11_in f1 ((S.1 38) (v4 - 1).toNatClampNeg)) = 0 then
                    if (r_X11_in f1 ((S.1 38) (v4 + 1).toNatClampNeg)) = 0 then
                      lp_X11_servedBy_13 S f1 f2 n v3 (v4 + 1)
                    else
                      lp_X11_servedBy_13 S f1 f2 n (v3 + 1) (v4 + 1)
                  else
                    lp_X11_servedBy_13 S f1 f2 n (v3 + 1) (v4 + 1)
                else
                  lp_X11_servedBy_13 S f1 f2 n v3 (v4 + 1))))
set_option maxRecDepth 20000 in
set_option maxHeartbeats 4000000 in
theorem e_lp_X11_servedBy_13 (d : Nat) (hs : List Hr) (P : Option Value → Hp → Prop) (S : St) (f1 : Int32) (f2 : Int32) : ∀ (n : Nat) (v3 : Int32) (v4 : Int32) (q : Int32), lp_X11_servedBy_13 S f1 f2 n v3 v4 = some q → (WM mi_X11_servedBy (d + 1) P 105 [some (.ref 7), some (.int f1), some (.int f2), some (.int q), none, none, none] [] (st S hs)) → WM mi_X11_servedBy (d + 1) P 13 [some (.ref 7), some (.int f1), some (.int f2), some (.int v3), some (.int v4), none, none] [] (st S hs) := by
  intro n
  induction n with
  | zero =>
    intro v3 v4 q hl
    cases hl
  | succ n ih =>
    intro v3 v4 q hl ct
    rw [lp_X11_servedBy_13] at hl
    refine Wp.stepsG 3 (fun cal X P' hk hX hP => ?_)
    show (f2 ≤ v4 → X (105, [some (.ref 7), some (.int f1), some (.int f2), some (.int v3), some (.int v4), none, none], [], st S hs, 0, 0)) ∧ (¬ f2 ≤ v4 → X (19, [some (.ref 7), some (.int f1), some (.int f2), some (.int v3), some (.int v4), none, none], [], st S hs, 0, 0))
    refine ⟨fun hc => hX _ ?_, fun hc => hX _ ?_⟩
    · clear hP hX hk P' X cal
      rw [if_pos hc] at hl
      have hl := Option.some.inj hl
      subst hl
      exact Wp.weak (leL.k (leL.k (leL.k (leL.k (leL.n (leL.k (leL.k leL.z))))))) (ct)
    · clear hP hX hk P' X cal
      rw [if_neg hc] at hl
      refine Wp.stepsG 7 (fun cal X P' hk hX hP => ?_)
      show (f2 ≤ (v4 + 1) → X (38, [some (.ref 7), some (.int f1), some (.int f2), some (.int v3), some (.int v4), none, none], [.ref 38], st S hs, 0, 0)) ∧ (¬ f2 ≤ (v4 + 1) → X (31, [some (.ref 7), some (.int f1), some (.int f2), some (.int v3), some (.int v4), none, none], [.ref 38], st S hs, 0, 0))
      refine ⟨fun hc => hX _ ?_, fun hc => hX _ ?_⟩
      · clear hP hX hk P' X cal
        rw [if_pos hc] at hl
        refine Wp.stepsG 2 (fun cal X P' hk hX hP => ?_)
        show vp_in (0 : Int32) 6 ∧ X (40, [some (.ref 7), some (.int f1), some (.int f2), some (.int v3), some (.int v4), none, none], [.int ((S.1 38) (0 : Int32).toNatClampNeg)], st S hs, 0, 0)
        refine ⟨(show ¬ ((0 : Int32) < 0 ∨ 6 ≤ (0 : Int32).toNatClampNeg) from by decide), hX _ ?_⟩
        clear hP hX hk P' X cal
        refine Wp.stepsG 5 (fun cal X P' hk hX hP => ?_)
        show (v4 ≤ 0 → X (58, [some (.ref 7), some (.int f1), some (.int f2), some (.int v3), some (.int v4), some (.int ((S.1 38) (0 : Int32).toNatClampNeg)), none], [.ref 38], st S hs, 0, 0)) ∧ (¬ v4 ≤ 0 → X (51, [some (.ref 7), some (.int f1), some (.int f2), some (.int v3), some (.int v4), some (.int ((S.1 38) (0 : Int32).toNatClampNeg)), none], [.ref 38], st S hs, 0, 0))
        refine ⟨fun hc => hX _ ?_, fun hc => hX _ ?_⟩
        · clear hP hX hk P' X cal
          rw [if_pos hc] at hl
          refine Wp.stepsG 4 (fun cal X P' hk hX hP => ?_)
          show vp_in (f2 - 1) 6 ∧ X (62, [some (.ref 7), some (.int f1), some (.int f2), some (.int v3), some (.int v4), some (.int ((S.1 38) (0 : Int32).toNatClampNeg)), none], [.int ((S.1 38) (f2 - 1).toNatClampNeg)], st S hs, 0, 0)
          obtain ⟨hg, hl⟩ := gd_some hl
          refine ⟨hg, hX _ ?_⟩
          clear hP hX hk P' X cal
          refine Wp.stepsG 6 (fun cal X P' hk hX hP => ?_)
          show vp_in v4 6 ∧ X (72, [some (.ref 7), some (.int f1), some (.int f2), some (.int v3), some (.int v4), some (.int ((S.1 38) (0 : Int32).toNatClampNeg)), some (.int ((S.1 38) (f2 - 1).toNatClampNeg))], [.int ((S.1 38) v4.toNatClampNeg), .int f1], st S hs, 0, 0)
          obtain ⟨hg, hl⟩ := gd_some hl
          refine ⟨hg, hX _ ?_⟩
          clear hP hX hk P' X cal
          refine Wp.stepsG 1 (fun cal X P' hk hX hP => ?_)
          show kcall cal ix_X11_in [.int f1, .int ((S.1 38) v4.toNatClampNeg)] (st S hs) [] 0 0 (0, 0) (fun v σ' c' m' => X (75, [some (.ref 7), some (.int f1), some (.int f2), some (.int v3), some (.int v4), some (.int ((S.1 38) (0 : Int32).toNatClampNeg)), some (.int ((S.1 38) (f2 - 1).toNatClampNeg))], v.toList ++ [], σ', c', m'))
          refine kcall0 rfl (hk _ _ _ _ _ _ (e_X11_in (d + 0) S hs f1 ((S.1 38) v4.toNatClampNeg) _ ?_))
          show X (75, [some (.ref 7), some (.int f1), some (.int f2), some (.int v3), some (.int v4), some (.int ((S.1 38) (0 : Int32).toNatClampNeg)), some (.int ((S.1 38) (f2 - 1).toNatClampNeg))], [.int (r_X11_in f1 ((S.1 38) v4.toNatClampNeg))], st S hs, 0, 0)
          refine hX _ ?_
          clear hP hX hk P' X cal
          refine Wp.stepsG 1 (fun cal X P' hk hX hP => ?_)
          show (¬ (r_X11_in f1 ((S.1 38) v4.toNatClampNeg)) = 0 → X (99, [some (.ref 7), some (.int f1), some (.int f2), some (.int v3), some (.int v4), some (.int ((S.1 38) (0 : Int32).toNatClampNeg)), some (.int ((S.1 38) (f2 - 1).toNatClampNeg))], [], st S hs, 0, 0)) ∧ ((r_X11_in f1 ((S.1 38) v4.toNatClampNeg)) = 0 → X (78, [some (.ref 7), some (.int f1), some (.int f2), some (.int v3), some (.int v4), some (.int ((S.1 38) (0 : Int32).toNatClampNeg)), some (.int ((S.1 38) (f2 - 1).toNatClampNeg))], [], st S hs, 0, 0))
          refine ⟨fun hc => hX _ ?_, fun hc => hX _ ?_⟩
          · clear hP hX hk P' X cal
            rw [if_neg hc] at hl
            refine Wp.stepsG 2 (fun cal X P' hk hX hP => ?_)
            show X (13, [some (.ref 7), some (.int f1), some (.int f2), some (.int v3), some (.int (v4 + 1)), some (.int ((S.1 38) (0 : Int32).toNatClampNeg)), some (.int ((S.1 38) (f2 - 1).toNatClampNeg))], [], st S hs, 0, 0)
            refine hX _ ?_
            exact Wp.weak (leL.k (leL.k (leL.k (leL.k (leL.k (leL.n (leL.n leL.z))))))) (ih v3 (v4 + 1) q hl ct)
          · clear hP hX hk P' X cal
            rw [if_pos hc] at hl
            refine Wp.stepsG 3 (fun cal X P' hk hX hP => ?_)
            show kcall cal ix_X11_in [.int f1, .int ((S.1 38) (f2 - 1).toNatClampNeg)] (st S hs) [] 0 0 (0, 0) (fun v σ' c' m' => X (84, [some (.ref 7), some (.int f1), some (.int f2), some (.int v3), some (.int v4), some (.int ((S.1 38) (0 : Int32).toNatClampNeg)), some (.int ((S.1 38) (f2 - 1).toNatClampNeg))], v.toList ++ [], σ', c', m'))
            refine kcall0 rfl (hk _ _ _ _ _ _ (e_X11_in (d + 0) S hs f1 ((S.1 38) (f2 - 1).toNatClampNeg) _ ?_))
            show X (84, [some (.ref 7), some (.int f1), some (.int f2), some (.int v3), some (.int v4), some (.int ((S.1 38) (0 : Int32).toNatClampNeg)), some (.int ((S.1 38) (f2 - 1).toNatClampNeg))], [.int (r_X11_in f1 ((S.1 38) (f2 - 1).toNatClampNeg))], st S hs, 0, 0)
            refine hX _ ?_
            clear hP hX hk P' X cal
            refine Wp.stepsG 1 (fun cal X P' hk hX hP => ?_)
            show (¬ (r_X11_in f1 ((S.1 38) (f2 - 1).toNatClampNeg)) = 0 → X (96, [some (.ref 7), some (.int f1), some (.int f2), some (.int v3), some (.int v4), some (.int ((S.1 38) (0 : Int32).toNatClampNeg)), some (.int ((S.1 38) (f2 - 1).toNatClampNeg))], [], st S hs, 0, 0)) ∧ ((r_X11_in f1 ((S.1 38) (f2 - 1).toNatClampNeg)) = 0 → X (87, [some (.ref 7), some (.int f1), some (.int f2), some (.int v3), some (.int v4), some (.int ((S.1 38) (0 : Int32).toNatClampNeg)), some (.int ((S.1 38) (f2 - 1).toNatClampNeg))], [], st S hs, 0, 0))
            refine ⟨fun hc => hX _ ?_, fun hc => hX _ ?_⟩
            · clear hP hX hk P' X cal
              rw [if_neg hc] at hl
              refine Wp.stepsG 3 (fun cal X P' hk hX hP => ?_)
              show X (13, [some (.ref 7), some (.int f1), some (.int f2), some (.int (v3 + 1)), some (.int (v4 + 1)), some (.int ((S.1 38) (0 : Int32).toNatClampNeg)), some (.int ((S.1 38) (f2 - 1).toNatClampNeg))], [], st S hs, 0, 0)
              refine hX _ ?_
              exact Wp.weak (leL.k (leL.k (leL.k (leL.k (leL.k (leL.n (leL.n leL.z))))))) (ih (v3 + 1) (v4 + 1) q hl ct)
            · clear hP hX hk P' X cal
              rw [if_pos hc] at hl
              refine Wp.stepsG 3 (fun cal X P' hk hX hP => ?_)
              show kcall cal ix_X11_in [.int f1, .int ((S.1 38) (0 : Int32).toNatClampNeg)] (st S hs) [] 0 0 (0, 0) (fun v σ' c' m' => X (93, [some (.ref 7), some (.int f1), some (.int f2), some (.int v3), some (.int v4), some (.int ((S.1 38) (0 : Int32).toNatClampNeg)), some (.int ((S.1 38) (f2 - 1).toNatClampNeg))], v.toList ++ [], σ', c', m'))
              refine kcall0 rfl (hk _ _ _ _ _ _ (e_X11_in (d + 0) S hs f1 ((S.1 38) (0 : Int32).toNatClampNeg) _ ?_))
              show X (93, [some (.ref 7), some (.int f1), some (.int f2), some (.int v3), some (.int v4), some (.int ((S.1 38) (0 : Int32).toNatClampNeg)), some (.int ((S.1 38) (f2 - 1).toNatClampNeg))], [.int (r_X11_in f1 ((S.1 38) (0 : Int32).toNatClampNeg))], st S hs, 0, 0)
              refine hX _ ?_
              clear hP hX hk P' X cal
              refine Wp.stepsG 1 (fun cal X P' hk hX hP => ?_)
              show ((r_X11_in f1 ((S.1 38) (0 : Int32).toNatClampNeg)) = 0 → X (99, [some (.ref 7), some (.int f1), some (.int f2), some (.int v3), some (.int v4), some (.int ((S.1 38) (0 : Int32).toNatClampNeg)), some (.int ((S.1 38) (f2 - 1).toNatClampNeg))], [], st S hs, 0, 0)) ∧ (¬ (r_X11_in f1 ((S.1 38) (0 : Int32).toNatClampNeg)) = 0 → X (96, [some (.ref 7), some (.int f1), some (.int f2), some (.int v3), some (.int v4), some (.int ((S.1 38) (0 : Int32).toNatClampNeg)), some (.int ((S.1 38) (f2 - 1).toNatClampNeg))], [], st S hs, 0, 0))
              refine ⟨fun hc => hX _ ?_, fun hc => hX _ ?_⟩
              · clear hP hX hk P' X cal
                rw [if_pos hc] at hl
                refine Wp.stepsG 2 (fun cal X P' hk hX hP => ?_)
                show X (13, [some (.ref 7), some (.int f1), some (.int f2), some (.int v3), some (.int (v4 + 1)), some (.int ((S.1 38) (0 : Int32).toNatClampNeg)), some (.int ((S.1 38) (f2 - 1).toNatClampNeg))], [], st S hs, 0, 0)
                refine hX _ ?_
                exact Wp.weak (leL.k (leL.k (leL.k (leL.k (leL.k (leL.n (leL.n leL.z))))))) (ih v3 (v4 + 1) q hl ct)
              · clear hP hX hk P' X cal
                rw [if_neg hc] at hl
                refine Wp.stepsG 3 (fun cal X P' hk hX hP => ?_)
                show X (13, [some (.ref 7), some (.int f1), some (.int f2), some (.int (v3 + 1)), some (.int (v4 + 1)), some (.int ((S.1 38) (0 : Int32).toNatClampNeg)), some (.int ((S.1 38) (f2 - 1).toNatClampNeg))], [], st S hs, 0, 0)
                refine hX _ ?_
                exact Wp.weak (leL.k (leL.k (leL.k (leL.k (leL.k (leL.n (leL.n leL.z))))))) (ih (v3 + 1) (v4 + 1) q hl ct)
        · clear hP hX hk P' X cal
          rw [if_neg hc] at hl
          refine Wp.stepsG 5 (fun cal X P' hk hX hP => ?_)
          show vp_in (v4 - 1) 6 ∧ X (62, [some (.ref 7), some (.int f1), some (.int f2), some (.int v3), some (.int v4), some (.int ((S.1 38) (0 : Int32).toNatClampNeg)), none], [.int ((S.1 38) (v4 - 1).toNatClampNeg)], st S hs, 0, 0)
          obtain ⟨hg, hl⟩ := gd_some hl
          refine ⟨hg, hX _ ?_⟩
          clear hP hX hk P' X cal
          refine Wp.stepsG 6 (fun cal X P' hk hX hP => ?_)
          show vp_in v4 6 ∧ X (72, [some (.ref 7), some (.int f1), some (.int f2), some (.int v3), some (.int v4), some (.int ((S.1 38) (0 : Int32).toNatClampNeg)), some (.int ((S.1 38) (v4 - 1).toNatClampNeg))], [.int ((S.1 38) v4.toNatClampNeg), .int f1], st S hs, 0, 0)
          obtain ⟨hg, hl⟩ := gd_some hl
          refine ⟨hg, hX _ ?_⟩
          clear hP hX hk P' X cal
          refine Wp.stepsG 1 (fun cal X P' hk hX hP => ?_)
          show kcall cal ix_X11_in [.int f1, .int ((S.1 38) v4.toNatClampNeg)] (st S hs) [] 0 0 (0, 0) (fun v σ' c' m' => X (75, [some (.ref 7), some (.int f1), some (.int f2), some (.int v3), some (.int v4), some (.int ((S.1 38) (0 : Int32).toNatClampNeg)), some (.int ((S.1 38) (v4 - 1).toNatClampNeg))], v.toList ++ [], σ', c', m'))
          refine kcall0 rfl (hk _ _ _ _ _ _ (e_X11_in (d + 0) S hs f1 ((S.1 38) v4.toNatClampNeg) _ ?_))
          show X (75, [some (.ref 7), some (.int f1), some (.int f2), some (.int v3), some (.int v4), some (.int ((S.1 38) (0 : Int32).toNatClampNeg)), some (.int ((S.1 38) (v4 - 1).toNatClampNeg))], [.int (r_X11_in f1 ((S.1 38) v4.toNatClampNeg))], st S hs, 0, 0)
          refine hX _ ?_
          clear hP hX hk P' X cal
          refine Wp.stepsG 1 (fun cal X P' hk hX hP => ?_)
          show (¬ (r_X11_in f1 ((S.1 38) v4.toNatClampNeg)) = 0 → X (99, [some (.ref 7), some (.int f1), some (.int f2), some (.int v3), some (.int v4), some (.int ((S.1 38) (0 : Int32).toNatClampNeg)), some (.int ((S.1 38) (v4 - 1).toNatClampNeg))], [], st S hs, 0, 0)) ∧ ((r_X11_in f1 ((S.1 38) v4.toNatClampNeg)) = 0 → X (78, [some (.ref 7), some (.int f1), some (.int f2), some (.int v3), some (.int v4), some (.int ((S.1 38) (0 : Int32).toNatClampNeg)), some (.int ((S.1 38) (v4 - 1).toNatClampNeg))], [], st S hs, 0, 0))
          refine ⟨fun hc => hX _ ?_, fun hc => hX _ ?_⟩
          · clear hP hX hk P' X cal
            rw [if_neg hc] at hl
            refine Wp.stepsG 2 (fun cal X P' hk hX hP => ?_)
            show X (13, [some (.ref 7), some (.int f1), some (.int f2), some (.int v3), some (.int (v4 + 1)), some (.int ((S.1 38) (0 : Int32).toNatClampNeg)), some (.int ((S.1 38) (v4 - 1).toNatClampNeg))], [], st S hs, 0, 0)
            refine hX _ ?_
            exact Wp.weak (leL.k (leL.k (leL.k (leL.k (leL.k (leL.n (leL.n leL.z))))))) (ih v3 (v4 + 1) q hl ct)
          · clear hP hX hk P' X cal
            rw [if_pos hc] at hl
            refine Wp.stepsG 3 (fun cal X P' hk hX hP => ?_)
            show kcall cal ix_X11_in [.int f1, .int ((S.1 38) (v4 - 1).toNatClampNeg)] (st S hs) [] 0 0 (0, 0) (fun v σ' c' m' => X (84, [some (.ref 7), some (.int f1), some (.int f2), some (.int v3), some (.int v4), some (.int ((S.1 38) (0 : Int32).toNatClampNeg)), some (.int ((S.1 38) (v4 - 1).toNatClampNeg))], v.toList ++ [], σ', c', m'))
            refine kcall0 rfl (hk _ _ _ _ _ _ (e_X11_in (d + 0) S hs f1 ((S.1 38) (v4 - 1).toNatClampNeg) _ ?_))
            show X (84, [some (.ref 7), some (.int f1), some (.int f2), some (.int v3), some (.int v4), some (.int ((S.1 38) (0 : Int32).toNatClampNeg)), some (.int ((S.1 38) (v4 - 1).toNatClampNeg))], [.int (r_X11_in f1 ((S.1 38) (v4 - 1).toNatClampNeg))], st S hs, 0, 0)
            refine hX _ ?_
            clear hP hX hk P' X cal
            refine Wp.stepsG 1 (fun cal X P' hk hX hP => ?_)
            show (¬ (r_X11_in f1 ((S.1 38) (v4 - 1).toNatClampNeg)) = 0 → X (96, [some (.ref 7), some (.int f1), some (.int f2), some (.int v3), some (.int v4), some (.int ((S.1 38) (0 : Int32).toNatClampNeg)), some (.int ((S.1 38) (v4 - 1).toNatClampNeg))], [], st S hs, 0, 0)) ∧ ((r_X11_in f1 ((S.1 38) (v4 - 1).toNatClampNeg)) = 0 → X (87, [some (.ref 7), some (.int f1), some (.int f2), some (.int v3), some (.int v4), some (.int ((S.1 38) (0 : Int32).toNatClampNeg)), some (.int ((S.1 38) (v4 - 1).toNatClampNeg))], [], st S hs, 0, 0))
            refine ⟨fun hc => hX _ ?_, fun hc => hX _ ?_⟩
            · clear hP hX hk P' X cal
              rw [if_neg hc] at hl
              refine Wp.stepsG 3 (fun cal X P' hk hX hP => ?_)
              show X (13, [some (.ref 7), some (.int f1), some (.int f2), some (.int (v3 + 1)), some (.int (v4 + 1)), some (.int ((S.1 38) (0 : Int32).toNatClampNeg)), some (.int ((S.1 38) (v4 - 1).toNatClampNeg))], [], st S hs, 0, 0)
              refine hX _ ?_
              exact Wp.weak (leL.k (leL.k (leL.k (leL.k (leL.k (leL.n (leL.n leL.z))))))) (ih (v3 + 1) (v4 + 1) q hl ct)
            · clear hP hX hk P' X cal
              rw [if_pos hc] at hl
              refine Wp.stepsG 3 (fun cal X P' hk hX hP => ?_)
              show kcall cal ix_X11_in [.int f1, .int ((S.1 38) (0 : Int32).toNatClampNeg)] (st S hs) [] 0 0 (0, 0) (fun v σ' c' m' => X (93, [some (.ref 7), some (.int f1), some (.int f2), some (.int v3), some (.int v4), some (.int ((S.1 38) (0 : Int32).toNatClampNeg)), some (.int ((S.1 38) (v4 - 1).toNatClampNeg))], v.toList ++ [], σ', c', m'))
              refine kcall0 rfl (hk _ _ _ _ _ _ (e_X11_in (d + 0) S hs f1 ((S.1 38) (0 : Int32).toNatClampNeg) _ ?_))
              show X (93, [some (.ref 7), some (.int f1), some (.int f2), some (.int v3), some (.int v4), some (.int ((S.1 38) (0 : Int32).toNatClampNeg)), some (.int ((S.1 38) (v4 - 1).toNatClampNeg))], [.int (r_X11_in f1 ((S.1 38) (0 : Int32).toNatClampNeg))], st S hs, 0, 0)
              refine hX _ ?_
              clear hP hX hk P' X cal
              refine Wp.stepsG 1 (fun cal X P' hk hX hP => ?_)
              show ((r_X11_in f1 ((S.1 38) (0 : Int32).toNatClampNeg)) = 0 → X (99, [some (.ref 7), some (.int f1), some (.int f2), some (.int v3), some (.int v4), some (.int ((S.1 38) (0 : Int32).toNatClampNeg)), some (.int ((S.1 38) (v4 - 1).toNatClampNeg))], [], st S hs, 0, 0)) ∧ (¬ (r_X11_in f1 ((S.1 38) (0 : Int32).toNatClampNeg)) = 0 → X (96, [some (.ref 7), some (.int f1), some (.int f2), some (.int v3), some (.int v4), some (.int ((S.1 38) (0 : Int32).toNatClampNeg)), some (.int ((S.1 38) (v4 - 1).toNatClampNeg))], [], st S hs, 0, 0))
              refine ⟨fun hc => hX _ ?_, fun hc => hX _ ?_⟩
              · clear hP hX hk P' X cal
                rw [if_pos hc] at hl
                refine Wp.stepsG 2 (fun cal X P' hk hX hP => ?_)
                show X (13, [some (.ref 7), some (.int f1), some (.int f2), some (.int v3), some (.int (v4 + 1)), some (.int ((S.1 38) (0 : Int32).toNatClampNeg)), some (.int ((S.1 38) (v4 - 1).toNatClampNeg))], [], st S hs, 0, 0)
                refine hX _ ?_
                exact Wp.weak (leL.k (leL.k (leL.k (leL.k (leL.k (leL.n (leL.n leL.z))))))) (ih v3 (v4 + 1) q hl ct)
              · clear hP hX hk P' X cal
                rw [if_neg hc] at hl
                refine Wp.stepsG 3 (fun cal X P' hk hX hP => ?_)
                show X (13, [some (.ref 7), some (.int f1), some (.int f2), some (.int (v3 + 1)), some (.int (v4 + 1)), some (.int ((S.1 38) (0 : Int32).toNatClampNeg)), some (.int ((S.1 38) (v4 - 1).toNatClampNeg))], [], st S hs, 0, 0)
                refine hX _ ?_
                exact Wp.weak (leL.k (leL.k (leL.k (leL.k (leL.k (leL.n (leL.n leL.z))))))) (ih (v3 + 1) (v4 + 1) q hl ct)
      · clear hP hX hk P' X cal
        rw [if_neg hc] at hl
        refine Wp.stepsG 5 (fun cal X P' hk hX hP => ?_)
        show vp_in (v4 + 1) 6 ∧ X (40, [some (.ref 7), some (.int f1), some (.int f2), some (.int v3), some (.int v4), none, none], [.int ((S.1 38) (v4 + 1).toNatClampNeg)], st S hs, 0, 0)
        obtain ⟨hg, hl⟩ := gd_some hl
        refine ⟨hg, hX _ ?_⟩
        clear hP hX hk P' X cal
        refine Wp.stepsG 5 (fun cal X P' hk hX hP => ?_)
        show (v4 ≤ 0 → X (58, [some (.ref 7), some (.int f1), some (.int f2), some (.int v3), some (.int v4), some (.int ((S.1 38) (v4 + 1).toNatClampNeg)), none], [.ref 38], st S hs, 0, 0)) ∧ (¬ v4 ≤ 0 → X (51, [some (.ref 7), some (.int f1), some (.int f2), some (.int v3), some (.int v4), some (.int ((S.1 38) (v4 + 1).toNatClampNeg)), none], [.ref 38], st S hs, 0, 0))
        refine ⟨fun hc => hX _ ?_, fun hc => hX _ ?_⟩
        · clear hP hX hk P' X cal
          rw [if_pos hc] at hl
          refine Wp.stepsG 4 (fun cal X P' hk hX hP => ?_)
          show vp_in (f2 - 1) 6 ∧ X (62, [some (.ref 7), some (.int f1), some (.int f2), some (.int v3), some (.int v4), some (.int ((S.1 38) (v4 + 1).toNatClampNeg)), none], [.int ((S.1 38) (f2 - 1).toNatClampNeg)], st S hs, 0, 0)
          obtain ⟨hg, hl⟩ := gd_some hl
          refine ⟨hg, hX _ ?_⟩
          clear hP hX hk P' X cal
          refine Wp.stepsG 6 (fun cal X P' hk hX hP => ?_)
          show vp_in v4 6 ∧ X (72, [some (.ref 7), some (.int f1), some (.int f2), some (.int v3), some (.int v4), some (.int ((S.1 38) (v4 + 1).toNatClampNeg)), some (.int ((S.1 38) (f2 - 1).toNatClampNeg))], [.int ((S.1 38) v4.toNatClampNeg), .int f1], st S hs, 0, 0)
          obtain ⟨hg, hl⟩ := gd_some hl
          refine ⟨hg, hX _ ?_⟩
          clear hP hX hk P' X cal
          refine Wp.stepsG 1 (fun cal X P' hk hX hP => ?_)
          show kcall cal ix_X11_in [.int f1, .int ((S.1 38) v4.toNatClampNeg)] (st S hs) [] 0 0 (0, 0) (fun v σ' c' m' => X (75, [some (.ref 7), some (.int f1), some (.int f2), some (.int v3), some (.int v4), some (.int ((S.1 38) (v4 + 1).toNatClampNeg)), some (.int ((S.1 38) (f2 - 1).toNatClampNeg))], v.toList ++ [], σ', c', m'))
          refine kcall0 rfl (hk _ _ _ _ _ _ (e_X11_in (d + 0) S hs f1 ((S.1 38) v4.toNatClampNeg) _ ?_))
          show X (75, [some (.ref 7), some (.int f1), some (.int f2), some (.int v3), some (.int v4), some (.int ((S.1 38) (v4 + 1).toNatClampNeg)), some (.int ((S.1 38) (f2 - 1).toNatClampNeg))], [.int (r_X11_in f1 ((S.1 38) v4.toNatClampNeg))], st S hs, 0, 0)
          refine hX _ ?_
          clear hP hX hk P' X cal
          refine Wp.stepsG 1 (fun cal X P' hk hX hP => ?_)
          show (¬ (r_X11_in f1 ((S.1 38) v4.toNatClampNeg)) = 0 → X (99, [some (.ref 7), some (.int f1), some (.int f2), some (.int v3), some (.int v4), some (.int ((S.1 38) (v4 + 1).toNatClampNeg)), some (.int ((S.1 38) (f2 - 1).toNatClampNeg))], [], st S hs, 0, 0)) ∧ ((r_X11_in f1 ((S.1 38) v4.toNatClampNeg)) = 0 → X (78, [some (.ref 7), some (.int f1), some (.int f2), some (.int v3), some (.int v4), some (.int ((S.1 38) (v4 + 1).toNatClampNeg)), some (.int ((S.1 38) (f2 - 1).toNatClampNeg))], [], st S hs, 0, 0))
          refine ⟨fun hc => hX _ ?_, fun hc => hX _ ?_⟩
          · clear hP hX hk P' X cal
            rw [if_neg hc] at hl
            refine Wp.stepsG 2 (fun cal X P' hk hX hP => ?_)
            show X (13, [some (.ref 7), some (.int f1), some (.int f2), some (.int v3), some (.int (v4 + 1)), some (.int ((S.1 38) (v4 + 1).toNatClampNeg)), some (.int ((S.1 38) (f2 - 1).toNatClampNeg))], [], st S hs, 0, 0)
            refine hX _ ?_
            exact Wp.weak (leL.k (leL.k (leL.k (leL.k (leL.k (leL.n (leL.n leL.z))))))) (ih v3 (v4 + 1) q hl ct)
          · clear hP hX hk P' X cal
            rw [if_pos hc] at hl
            refine Wp.stepsG 3 (fun cal X P' hk hX hP => ?_)
            show kcall cal ix_X11_in [.int f1, .int ((S.1 38) (f2 - 1).toNatClampNeg)] (st S hs) [] 0 0 (0, 0) (fun v σ' c' m' => X (84, [some (.ref 7), some (.int f1), some (.int f2), some (.int v3), some (.int v4), some (.int ((S.1 38) (v4 + 1).toNatClampNeg)), some (.int ((S.1 38) (f2 - 1).toNatClampNeg))], v.toList ++ [], σ', c', m'))
            refine kcall0 rfl (hk _ _ _ _ _ _ (e_X11_in (d + 0) S hs f1 ((S.1 38) (f2 - 1).toNatClampNeg) _ ?_))
            show X (84, [some (.ref 7), some (.int f1), some (.int f2), some (.int v3), some (.int v4), some (.int ((S.1 38) (v4 + 1).toNatClampNeg)), some (.int ((S.1 38) (f2 - 1).toNatClampNeg))], [.int (r_X11_in f1 ((S.1 38) (f2 - 1).toNatClampNeg))], st S hs, 0, 0)
            refine hX _ ?_
            clear hP hX hk P' X cal
            refine Wp.stepsG 1 (fun cal X P' hk hX hP => ?_)
            show (¬ (r_X11_in f1 ((S.1 38) (f2 - 1).toNatClampNeg)) = 0 → X (96, [some (.ref 7), some (.int f1), some (.int f2), some (.int v3), some (.int v4), some (.int ((S.1 38) (v4 + 1).toNatClampNeg)), some (.int ((S.1 38) (f2 - 1).toNatClampNeg))], [], st S hs, 0, 0)) ∧ ((r_X11_in f1 ((S.1 38) (f2 - 1).toNatClampNeg)) = 0 → X (87, [some (.ref 7), some (.int f1), some (.int f2), some (.int v3), some (.int v4), some (.int ((S.1 38) (v4 + 1).toNatClampNeg)), some (.int ((S.1 38) (f2 - 1).toNatClampNeg))], [], st S hs, 0, 0))
            refine ⟨fun hc => hX _ ?_, fun hc => hX _ ?_⟩
            · clear hP hX hk P' X cal
              rw [if_neg hc] at hl
              refine Wp.stepsG 3 (fun cal X P' hk hX hP => ?_)
              show X (13, [some (.ref 7), some (.int f1), some (.int f2), some (.int (v3 + 1)), some (.int (v4 + 1)), some (.int ((S.1 38) (v4 + 1).toNatClampNeg)), some (.int ((S.1 38) (f2 - 1).toNatClampNeg))], [], st S hs, 0, 0)
              refine hX _ ?_
              exact Wp.weak (leL.k (leL.k (leL.k (leL.k (leL.k (leL.n (leL.n leL.z))))))) (ih (v3 + 1) (v4 + 1) q hl ct)
            · clear hP hX hk P' X cal
              rw [if_pos hc] at hl
              refine Wp.stepsG 3 (fun cal X P' hk hX hP => ?_)
              show kcall cal ix_X11_in [.int f1, .int ((S.1 38) (v4 + 1).toNatClampNeg)] (st S hs) [] 0 0 (0, 0) (fun v σ' c' m' => X (93, [some (.ref 7), some (.int f1), some (.int f2), some (.int v3), some (.int v4), some (.int ((S.1 38) (v4 + 1).toNatClampNeg)), some (.int ((S.1 38) (f2 - 1).toNatClampNeg))], v.toList ++ [], σ', c', m'))
              refine kcall0 rfl (hk _ _ _ _ _ _ (e_X11_in (d + 0) S hs f1 ((S.1 38) (v4 + 1).toNatClampNeg) _ ?_))
              show X (93, [some (.ref 7), some (.int f1), some (.int f2), some (.int v3), some (.int v4), some (.int ((S.1 38) (v4 + 1).toNatClampNeg)), some (.int ((S.1 38) (f2 - 1).toNatClampNeg))], [.int (r_X11_in f1 ((S.1 38) (v4 + 1).toNatClampNeg))], st S hs, 0, 0)
              refine hX _ ?_
              clear hP hX hk P' X cal
              refine Wp.stepsG 1 (fun cal X P' hk hX hP => ?_)
              show ((r_X11_in f1 ((S.1 38) (v4 + 1).toNatClampNeg)) = 0 → X (99, [some (.ref 7), some (.int f1), some (.int f2), some (.int v3), some (.int v4), some (.int ((S.1 38) (v4 + 1).toNatClampNeg)), some (.int ((S.1 38) (f2 - 1).toNatClampNeg))], [], st S hs, 0, 0)) ∧ (¬ (r_X11_in f1 ((S.1 38) (v4 + 1).toNatClampNeg)) = 0 → X (96, [some (.ref 7), some (.int f1), some (.int f2), some (.int v3), some (.int v4), some (.int ((S.1 38) (v4 + 1).toNatClampNeg)), some (.int ((S.1 38) (f2 - 1).toNatClampNeg))], [], st S hs, 0, 0))
              refine ⟨fun hc => hX _ ?_, fun hc => hX _ ?_⟩
              · clear hP hX hk P' X cal
                rw [if_pos hc] at hl
                refine Wp.stepsG 2 (fun cal X P' hk hX hP => ?_)
                show X (13, [some (.ref 7), some (.int f1), some (.int f2), some (.int v3), some (.int (v4 + 1)), some (.int ((S.1 38) (v4 + 1).toNatClampNeg)), some (.int ((S.1 38) (f2 - 1).toNatClampNeg))], [], st S hs, 0, 0)
                refine hX _ ?_
                exact Wp.weak (leL.k (leL.k (leL.k (leL.k (leL.k (leL.n (leL.n leL.z))))))) (ih v3 (v4 + 1) q hl ct)
              · clear hP hX hk P' X cal
                rw [if_neg hc] at hl
                refine Wp.stepsG 3 (fun cal X P' hk hX hP => ?_)
                show X (13, [some (.ref 7), some (.int f1), some (.int f2), some (.int (v3 + 1)), some (.int (v4 + 1)), some (.int ((S.1 38) (v4 + 1).toNatClampNeg)), some (.int ((S.1 38) (f2 - 1).toNatClampNeg))], [], st S hs, 0, 0)
                refine hX _ ?_
                exact Wp.weak (leL.k (leL.k (leL.k (leL.k (leL.k (leL.n (leL.n leL.z))))))) (ih (v3 + 1) (v4 + 1) q hl ct)
        · clear hP hX hk P' X cal
          rw [if_neg hc] at hl
          refine Wp.stepsG 5 (fun cal X P' hk hX hP => ?_)
          show vp_in (v4 - 1) 6 ∧ X (62, [some (.ref 7), some (.int f1), some (.int f2), some (.int v3), some (.int v4), some (.int ((S.1 38) (v4 + 1).toNatClampNeg)), none], [.int ((S.1 38) (v4 - 1).toNatClampNeg)], st S hs, 0, 0)
          obtain ⟨hg, hl⟩ := gd_some hl
          refine ⟨hg, hX _ ?_⟩
          clear hP hX hk P' X cal
          refine Wp.stepsG 6 (fun cal X P' hk hX hP => ?_)
          show vp_in v4 6 ∧ X (72, [some (.ref 7), some (.int f1), some (.int f2), some (.int v3), some (.int v4), some (.int ((S.1 38) (v4 + 1).toNatClampNeg)), some (.int ((S.1 38) (v4 - 1).toNatClampNeg))], [.int ((S.1 38) v4.toNatClampNeg), .int f1], st S hs, 0, 0)
          obtain ⟨hg, hl⟩ := gd_some hl
          refine ⟨hg, hX _ ?_⟩
          clear hP hX hk P' X cal
          refine Wp.stepsG 1 (fun cal X P' hk hX hP => ?_)
          show kcall cal ix_X11_in [.int f1, .int ((S.1 38) v4.toNatClampNeg)] (st S hs) [] 0 0 (0, 0) (fun v σ' c' m' => X (75, [some (.ref 7), some (.int f1), some (.int f2), some (.int v3), some (.int v4), some (.int ((S.1 38) (v4 + 1).toNatClampNeg)), some (.int ((S.1 38) (v4 - 1).toNatClampNeg))], v.toList ++ [], σ', c', m'))
          refine kcall0 rfl (hk _ _ _ _ _ _ (e_X11_in (d + 0) S hs f1 ((S.1 38) v4.toNatClampNeg) _ ?_))
          show X (75, [some (.ref 7), some (.int f1), some (.int f2), some (.int v3), some (.int v4), some (.int ((S.1 38) (v4 + 1).toNatClampNeg)), some (.int ((S.1 38) (v4 - 1).toNatClampNeg))], [.int (r_X11_in f1 ((S.1 38) v4.toNatClampNeg))], st S hs, 0, 0)
          refine hX _ ?_
          clear hP hX hk P' X cal
          refine Wp.stepsG 1 (fun cal X P' hk hX hP => ?_)
          show (¬ (r_X11_in f1 ((S.1 38) v4.toNatClampNeg)) = 0 → X (99, [some (.ref 7), some (.int f1), some (.int f2), some (.int v3), some (.int v4), some (.int ((S.1 38) (v4 + 1).toNatClampNeg)), some (.int ((S.1 38) (v4 - 1).toNatClampNeg))], [], st S hs, 0, 0)) ∧ ((r_X11_in f1 ((S.1 38) v4.toNatClampNeg)) = 0 → X (78, [some (.ref 7), some (.int f1), some (.int f2), some (.int v3), some (.int v4), some (.int ((S.1 38) (v4 + 1).toNatClampNeg)), some (.int ((S.1 38) (v4 - 1).toNatClampNeg))], [], st S hs, 0, 0))
          refine ⟨fun hc => hX _ ?_, fun hc => hX _ ?_⟩
          · clear hP hX hk P' X cal
            rw [if_neg hc] at hl
            refine Wp.stepsG 2 (fun cal X P' hk hX hP => ?_)
            show X (13, [some (.ref 7), some (.int f1), some (.int f2), some (.int v3), some (.int (v4 + 1)), some (.int ((S.1 38) (v4 + 1).toNatClampNeg)), some (.int ((S.1 38) (v4 - 1).toNatClampNeg))], [], st S hs, 0, 0)
            refine hX _ ?_
            exact Wp.weak (leL.k (leL.k (leL.k (leL.k (leL.k (leL.n (leL.n leL.z))))))) (ih v3 (v4 + 1) q hl ct)
          · clear hP hX hk P' X cal
            rw [if_pos hc] at hl
            refine Wp.stepsG 3 (fun cal X P' hk hX hP => ?_)
            show kcall cal ix_X11_in [.int f1, .int ((S.1 38) (v4 - 1).toNatClampNeg)] (st S hs) [] 0 0 (0, 0) (fun v σ' c' m' => X (84, [some (.ref 7), some (.int f1), some (.int f2), some (.int v3), some (.int v4), some (.int ((S.1 38) (v4 + 1).toNatClampNeg)), some (.int ((S.1 38) (v4 - 1).toNatClampNeg))], v.toList ++ [], σ', c', m'))
            refine kcall0 rfl (hk _ _ _ _ _ _ (e_X11_in (d + 0) S hs f1 ((S.1 38) (v4 - 1).toNatClampNeg) _ ?_))
            show X (84, [some (.ref 7), some (.int f1), some (.int f2), some (.int v3), some (.int v4), some (.int ((S.1 38) (v4 + 1).toNatClampNeg)), some (.int ((S.1 38) (v4 - 1).toNatClampNeg))], [.int (r_X11_in f1 ((S.1 38) (v4 - 1).toNatClampNeg))], st S hs, 0, 0)
            refine hX _ ?_
            clear hP hX hk P' X cal
            refine Wp.stepsG 1 (fun cal X P' hk hX hP => ?_)
            show (¬ (r_X11_in f1 ((S.1 38) (v4 - 1).toNatClampNeg)) = 0 → X (96, [some (.ref 7), some (.int f1), some (.int f2), some (.int v3), some (.int v4), some (.int ((S.1 38) (v4 + 1).toNatClampNeg)), some (.int ((S.1 38) (v4 - 1).toNatClampNeg))], [], st S hs, 0, 0)) ∧ ((r_X11_in f1 ((S.1 38) (v4 - 1).toNatClampNeg)) = 0 → X (87, [some (.ref 7), some (.int f1), some (.int f2), some (.int v3), some (.int v4), some (.int ((S.1 38) (v4 + 1).toNatClampNeg)), some (.int ((S.1 38) (v4 - 1).toNatClampNeg))], [], st S hs, 0, 0))
            refine ⟨fun hc => hX _ ?_, fun hc => hX _ ?_⟩
            · clear hP hX hk P' X cal
              rw [if_neg hc] at hl
              refine Wp.stepsG 3 (fun cal X P' hk hX hP => ?_)
              show X (13, [some (.ref 7), some (.int f1), some (.int f2), some (.int (v3 + 1)), some (.int (v4 + 1)), some (.int ((S.1 38) (v4 + 1).toNatClampNeg)), some (.int ((S.1 38) (v4 - 1).toNatClampNeg))], [], st S hs, 0, 0)
              refine hX _ ?_
              exact Wp.weak (leL.k (leL.k (leL.k (leL.k (leL.k (leL.n (leL.n leL.z))))))) (ih (v3 + 1) (v4 + 1) q hl ct)
            · clear hP hX hk P' X cal
              rw [if_pos hc] at hl
              refine Wp.stepsG 3 (fun cal X P' hk hX hP => ?_)
              show kcall cal ix_X11_in [.int f1, .int ((S.1 38) (v4 + 1).toNatClampNeg)] (st S hs) [] 0 0 (0, 0) (fun v σ' c' m' => X (93, [some (.ref 7), some (.int f1), some (.int f2), some (.int v3), some (.int v4), some (.int ((S.1 38) (v4 + 1).toNatClampNeg)), some (.int ((S.1 38) (v4 - 1).toNatClampNeg))], v.toList ++ [], σ', c', m'))
              refine kcall0 rfl (hk _ _ _ _ _ _ (e_X11_in (d + 0) S hs f1 ((S.1 38) (v4 + 1).toNatClampNeg) _ ?_))
              show X (93, [some (.ref 7), some (.int f1), some (.int f2), some (.int v3), some (.int v4), some (.int ((S.1 38) (v4 + 1).toNatClampNeg)), some (.int ((S.1 38) (v4 - 1).toNatClampNeg))], [.int (r_X11_in f1 ((S.1 38) (v4 + 1).toNatClampNeg))], st S hs, 0, 0)
              refine hX _ ?_
              clear hP hX hk P' X cal
              refine Wp.stepsG 1 (fun cal X P' hk hX hP => ?_)
              show ((r_X11_in f1 ((S.1 38) (v4 + 1).toNatClampNeg)) = 0 → X (99, [some (.ref 7), some (.int f1), some (.int f2), some (.int v3), some (.int v4), some (.int ((S.1 38) (v4 + 1).toNatClampNeg)), some (.int ((S.1 38) (v4 - 1).toNatClampNeg))], [], st S hs, 0, 0)) ∧ (¬ (r_X11_in f1 ((S.1 38) (v4 + 1).toNatClampNeg)) = 0 → X (96, [some (.ref 7), some (.int f1), some (.int f2), some (.int v3), some (.int v4), some (.int ((S.1 38) (v4 + 1).toNatClampNeg)), some (.int ((S.1 38) (v4 - 1).toNatClampNeg))], [], st S hs, 0, 0))
              refine ⟨fun hc => hX _ ?_, fun hc => hX _ ?_⟩
              · clear hP hX hk P' X cal
                rw [if_pos hc] at hl
                refine Wp.stepsG 2 (fun cal X P' hk hX hP => ?_)
                show X (13, [some (.ref 7), some (.int f1), some (.int f2), some (.int v3), some (.int (v4 + 1)), some (.int ((S.1 38) (v4 + 1).toNatClampNeg)), some (.int ((S.1 38) (v4 - 1).toNatClampNeg))], [], st S hs, 0, 0)
                refine hX _ ?_
                exact Wp.weak (leL.k (leL.k (leL.k (leL.k (leL.k (leL.n (leL.n leL.z))))))) (ih v3 (v4 + 1) q hl ct)
              · clear hP hX hk P' X cal
                rw [if_neg hc] at hl
                refine Wp.stepsG 3 (fun cal X P' hk hX hP => ?_)
                show X (13, [some (.ref 7), some (.int f1), some (.int f2), some (.int (v3 + 1)), some (.int (v4 + 1)), some (.int ((S.1 38) (v4 + 1).toNatClampNeg)), some (.int ((S.1 38) (v4 - 1).toNatClampNeg))], [], st S hs, 0, 0)
                refine hX _ ?_
                exact Wp.weak (leL.k (leL.k (leL.k (leL.k (leL.k (leL.n (leL.n leL.z))))))) (ih (v3 + 1) (v4 + 1) q hl ct)
def r_X11_servedBy (S : St) (a1 : Int32) : Option Int32 :=
  (lp_X11_servedBy_13 S a1 (S.1 8 3) 4000 0 0).bind fun q1 =>
    some q1
set_option maxRecDepth 20000 in
set_option maxHeartbeats 4000000 in
theorem e_X11_servedBy (d : Nat) (S : St) (hs : List Hr) (a1 : Int32) (v : Int32) (hr : r_X11_servedBy S a1 = some v) (P : Option Value → Hp → Prop) (h : P (some (.int v)) (st S hs)) : Ev (d + 2) ix_X11_servedBy 0 0 [.ref 7, .int a1] (st S hs) P := by
  refine Ev.intro (M := mi_X11_servedBy) rfl (Nat.le_of_ble_eq_true rfl) ?_
  unfold r_X11_servedBy at hr
  refine Wp.stepsG 8 (fun cal X P' hk hX hP => ?_)
  show X (13, [some (.ref 7), some (.int a1), some (.int (S.1 8 3)), some (.int 0), some (.int 0), none, none], [], st S hs, 0, 0)
  refine hX _ ?_
  clear hP hX hk P' X cal
  obtain ⟨q1, hq1, hr⟩ := bd_some hr
  refine (e_lp_X11_servedBy_13 d hs P S a1 (S.1 8 3) _ 0 0 q1 hq1 ?_)
  have hr := Option.some.inj hr
  subst hr
  refine Wp.stepsG 2 (fun cal X P' hk hX hP => ?_)
  exact hP _ _ h
def r_X11_swapSeats (S : St) (a1 : Int32) (a2 : Int32) : Option (Int32 × St) :=
  gd (¬ (a1 < 0 ∨ 6 ≤ a1.toNatClampNeg)) (
    gd (¬ (a2 < 0 ∨ 6 ≤ a2.toNatClampNeg)) (
      gd (¬ (a1 < 0 ∨ 6 ≤ a1.toNatClampNeg)) (
        wS (sA S 38 (upd (S.1 38) a1.toNatClampNeg ((S.1 38) a2.toNatClampNeg))) fun S1 =>
        gd (¬ (a2 < 0 ∨ 6 ≤ a2.toNatClampNeg)) (
          some (0, sA S1 38 (upd (S1.1 38) a2.toNatClampNeg ((S.1 38) a1.toNatClampNeg)))))))
set_option maxRecDepth 20000 in
set_option maxHeartbeats 4000000 in
theorem e_X11_swapSeats (d : Nat) (S : St) (hs : List Hr) (a1 : Int32) (a2 : Int32) (v : Int32 × St) (hr : r_X11_swapSeats S a1 a2 = some v) (P : Option Value → Hp → Prop) (h : P none (st v.2 hs)) : Ev (d + 1) ix_X11_swapSeats 0 0 [.ref 7, .int a1, .int a2] (st S hs) P := by
  refine Ev.intro (M := mi_X11_swapSeats) rfl (Nat.le_of_ble_eq_true rfl) ?_
  unfold r_X11_swapSeats at hr
  refine Wp.stepsG 4 (fun cal X P' hk hX hP => ?_)
  show vp_in a1 6 ∧ X (6, [some (.ref 7), some (.int a1), some (.int a2), none], [.int ((S.1 38) a1.toNatClampNeg)], st S hs, 0, 0)
  obtain ⟨hg, hr⟩ := gd_some hr
  refine ⟨hg, hX _ ?_⟩
  clear hP hX hk P' X cal
  refine Wp.stepsG 8 (fun cal X P' hk hX hP => ?_)
  show vp_in a2 6 ∧ X (18, [some (.ref 7), some (.int a1), some (.int a2), some (.int ((S.1 38) a1.toNatClampNeg))], [.int ((S.1 38) a2.toNatClampNeg), .int a1, .ref 38], st S hs, 0, 0)
  obtain ⟨hg, hr⟩ := gd_some hr
  refine ⟨hg, hX _ ?_⟩
  clear hP hX hk P' X cal
  refine Wp.stepsG 1 (fun cal X P' hk hX hP => ?_)
  show vp_in a1 6 ∧ X (19, [some (.ref 7), some (.int a1), some (.int a2), some (.int ((S.1 38) a1.toNatClampNeg))], [], st (sA S 38 (upd (S.1 38) a1.toNatClampNeg ((S.1 38) a2.toNatClampNeg))) hs, 0, 0)
  obtain ⟨hg, hr⟩ := gd_some hr
  refine ⟨hg, hX _ ?_⟩
  clear hP hX hk P' X cal
  refine Wp.stepsG 4 (fun cal X P' hk hX hP => ?_)
  show X (25, [some (.ref 7), some (.int a1), some (.int a2), some (.int ((S.1 38) a1.toNatClampNeg))], [.int ((S.1 38) a1.toNatClampNeg), .int a2, .ref 38], st (sA S 38 (upd (S.1 38) a1.toNatClampNeg ((S.1 38) a2.toNatClampNeg))) hs, 0, 0)
  refine hX _ ?_
  clear hP hX hk P' X cal
  obtain ⟨S1, hS1, hr⟩ := wS_some hr
  rw [hS1]
  refine Wp.stepsG 1 (fun cal X P' hk hX hP => ?_)
  show vp_in a2 6 ∧ X (26, [some (.ref 7), some (.int a1), some (.int a2), some (.int ((S.1 38) a1.toNatClampNeg))], [], st (sA S1 38 (upd (S1.1 38) a2.toNatClampNeg ((S.1 38) a1.toNatClampNeg))) hs, 0, 0)
  obtain ⟨hg, hr⟩ := gd_some hr
  refine ⟨hg, hX _ ?_⟩
  clear hP hX hk P' X cal
  have hr := Option.some.inj hr
  subst hr
  refine Wp.stepsG 1 (fun cal X P' hk hX hP => ?_)
  exact hP _ _ h
def lp_X11_nextOrder_10 (S : St) : Nat → Int32 → Option (Int32)
  | 0, _ => none
  | n + 1, v1 =>
    if v1 ≤ 0 then
      some v1
    else
      gd (¬ (v1 < 0 ∨ 6 ≤ v1.toNatClampNeg)) (
        gd (¬ ((v1 + 1) < 0 ∨ 6 ≤ (v1 + 1).toNatClampNeg)) (
          if ((S.1 38) v1.toNatClampNeg) ≤ ((S.1 38) (v1 + 1).toNatClampNeg) then
            some v1
          else
            lp_X11_nextOrder_10 S n (v1 + (-1))))
set_option maxRecDepth 20000 in
set_option maxHeartbeats 4000000 in
theorem e_lp_X11_nextOrder_10 (d : Nat) (hs : List Hr) (P : Option Value → Hp → Prop) (S : St) : ∀ (n : Nat) (v1 : Int32) (q : Int32), lp_X11_nextOrder_10 S n v1 = some q → (WM mi_X11_nextOrder (d + 1) P 37 [some (.ref 7), some (.int q), none, none, none] [] (st S hs)) → WM mi_X11_nextOrder (d + 1) P 10 [some (.ref 7), some (.int v1), none, none, none] [] (st S hs) := by
  intro n
  induction n with
  | zero =>
    intro v1 q hl
    cases hl
  | succ n ih =>
    intro v1 q hl ct
    rw [lp_X11_nextOrder_10] at hl
    refine Wp.stepsG 2 (fun cal X P' hk hX hP => ?_)
    show (v1 ≤ 0 → X (37, [some (.ref 7), some (.int v1), none, none, none], [], st S hs, 0, 0)) ∧ (¬ v1 ≤ 0 → X (14, [some (.ref 7), some (.int v1), none, none, none], [], st S hs, 0, 0))
    refine ⟨fun hc => hX _ ?_, fun hc => hX _ ?_⟩
    · clear hP hX hk P' X cal
      rw [if_pos hc] at hl
      have hl := Option.some.inj hl
      subst hl
      exact (ct)
    · clear hP hX hk P' X cal
      rw [if_neg hc] at hl
      refine Wp.stepsG 4 (fun cal X P' hk hX hP => ?_)
      show vp_in v1 6 ∧ X (20, [some (.ref 7), some (.int v1), none, none, none], [.int ((S.1 38) v1.toNatClampNeg)], st S hs, 0, 0)
      obtain ⟨hg, hl⟩ := gd_some hl
      refine ⟨hg, hX _ ?_⟩
      clear hP hX hk P' X cal
      refine Wp.stepsG 6 (fun cal X P' hk hX hP => ?_)
      show vp_in (v1 + 1) 6 ∧ X (28, [some (.ref 7), some (.int v1), none, none, none], [.int ((S.1 38) (v1 + 1).toNatClampNeg), .int ((S.1 38) v1.toNatClampNeg)], st S hs, 0, 0)
      obtain ⟨hg, hl⟩ := gd_some hl
      refine ⟨hg, hX _ ?_⟩
      clear hP hX hk P' X cal
      refine Wp.stepsG 1 (fun cal X P' hk hX hP => ?_)
      show (((S.1 38) v1.toNatClampNeg) ≤ ((S.1 38) (v1 + 1).toNatClampNeg) → X (37, [some (.ref 7), some (.int v1), none, none, none], [], st S hs, 0, 0)) ∧ (¬ ((S.1 38) v1.toNatClampNeg) ≤ ((S.1 38) (v1 + 1).toNatClampNeg) → X (31, [some (.ref 7), some (.int v1), none, none, none], [], st S hs, 0, 0))
      refine ⟨fun hc => hX _ ?_, fun hc => hX _ ?_⟩
      · clear hP hX hk P' X cal
        rw [if_pos hc] at hl
        have hl := Option.some.inj hl
        subst hl
        exact (ct)
      · clear hP hX hk P' X cal
        rw [if_neg hc] at hl
        refine Wp.stepsG 2 (fun cal X P' hk hX hP => ?_)
        show X (10, [some (.ref 7), some (.int (v1 + (-1))), none, none, none], [], st S hs, 0, 0)
        refine hX _ ?_
        exact (ih (v1 + (-1)) q hl ct)
def lp_X11_nextOrder_53 (S : St) (f1 : Int32) : Nat → Int32 → Option (Int32)
  | 0, _ => none
  | n + 1, v2 =>
    if v2 ≤ f1 then
      some v2
    else
      gd (¬ (v2 < 0 ∨ 6 ≤ v2.toNatClampNeg)) (
        gd (¬ (f1 < 0 ∨ 6 ≤ f1.toNatClampNeg)) (
          if ((S.1 38) f1.toNatClampNeg) ≤ ((S.1 38) v2.toNatClampNeg) then
            some v2
          else
            lp_X11_nextOrder_53 S f1 n (v2 + (-1))))
set_option maxRecDepth 20000 in
set_option maxHeartbeats 4000000 in
theorem e_lp_X11_nextOrder_53 (d : Nat) (hs : List Hr) (P : Option Value → Hp → Prop) (S : St) (f1 : Int32) : ∀ (n : Nat) (v2 : Int32) (q : Int32), lp_X11_nextOrder_53 S f1 n v2 = some q → (WM mi_X11_nextOrder (d + 1) P 79 [some (.ref 7), some (.int f1), some (.int q), none, none] [] (st S hs)) → WM mi_X11_nextOrder (d + 1) P 53 [some (.ref 7), some (.int f1), some (.int v2), none, none] [] (st S hs) := by
  intro n
  induction n with
  | zero =>
    intro v2 q hl
    cases hl
  | succ n ih =>
    intro v2 q hl ct
    rw [lp_X11_nextOrder_53] at hl
    refine Wp.stepsG 3 (fun cal X P' hk hX hP => ?_)
    show (v2 ≤ f1 → X (79, [some (.ref 7), some (.int f1), some (.int v2), none, none], [], st S hs, 0, 0)) ∧ (¬ v2 ≤ f1 → X (58, [some (.ref 7), some (.int f1), some (.int v2), none, none], [], st S hs, 0, 0))
    refine ⟨fun hc => hX _ ?_, fun hc => hX _ ?_⟩
    · clear hP hX hk P' X cal
      rw [if_pos hc] at hl
      have hl := Option.some.inj hl
      subst hl
      exact (ct)
    · clear hP hX hk P' X cal
      rw [if_neg hc] at hl
      refine Wp.stepsG 4 (fun cal X P' hk hX hP => ?_)
      show vp_in v2 6 ∧ X (64, [some (.ref 7), some (.int f1), some (.int v2), none, none], [.int ((S.1 38) v2.toNatClampNeg)], st S hs, 0, 0)
      obtain ⟨hg, hl⟩ := gd_some hl
      refine ⟨hg, hX _ ?_⟩
      clear hP hX hk P' X cal
      refine Wp.stepsG 4 (fun cal X P' hk hX hP => ?_)
      show vp_in f1 6 ∧ X (70, [some (.ref 7), some (.int f1), some (.int v2), none, none], [.int ((S.1 38) f1.toNatClampNeg), .int ((S.1 38) v2.toNatClampNeg)], st S hs, 0, 0)
      obtain ⟨hg, hl⟩ := gd_some hl
      refine ⟨hg, hX _ ?_⟩
      clear hP hX hk P' X cal
      refine Wp.stepsG 1 (fun cal X P' hk hX hP => ?_)
      show (((S.1 38) f1.toNatClampNeg) ≤ ((S.1 38) v2.toNatClampNeg) → X (79, [some (.ref 7), some (.int f1), some (.int v2), none, none], [], st S hs, 0, 0)) ∧ (¬ ((S.1 38) f1.toNatClampNeg) ≤ ((S.1 38) v2.toNatClampNeg) → X (73, [some (.ref 7), some (.int f1), some (.int v2), none, none], [], st S hs, 0, 0))
      refine ⟨fun hc => hX _ ?_, fun hc => hX _ ?_⟩
      · clear hP hX hk P' X cal
        rw [if_pos hc] at hl
        have hl := Option.some.inj hl
        subst hl
        exact (ct)
      · clear hP hX hk P' X cal
        rw [if_neg hc] at hl
        refine Wp.stepsG 2 (fun cal X P' hk hX hP => ?_)
        show X (53, [some (.ref 7), some (.int f1), some (.int (v2 + (-1))), none, none], [], st S hs, 0, 0)
        refine hX _ ?_
        exact (ih (v2 + (-1)) q hl ct)
