set_option maxRecDepth 20000 in
set_option maxHeartbeats 4000000 in
theorem e_X5_learnPart_d2_40 (d : Nat) (S : St) (hs : List Hr) (v : Int32 × St) (hr : r_X5_learnPart_d2 S 40 = some v) (P : Option Value → Hp → Prop) (h : P (some (.int v.1)) (st v.2 hs)) : Ev (d + 9) ix_X5_learnPart 0 0 [.ref 40, .int 2] (st S hs) P := by
  refine Ev.intro (M := mi_X5_learnPart) rfl (Nat.le_of_ble_eq_true rfl) ?_
  unfold r_X5_learnPart_d2 at hr
  refine Wp.stepsG 4 (fun cal X P' hk hX hP => ?_)
  show kcall cal ix_X5_signAt [.ref 40, .int (S.1 40 7)] (st S hs) [] 0 0 (0, 0) (fun v σ' c' m' => X (8, [some (.ref 40), some (.int 2), none, none, none, none], v.toList ++ [], σ', c', m'))
  obtain ⟨q1, hq1, hr⟩ := bd_some hr
  refine kcall0 rfl (hk _ _ _ _ _ _ (e_X5_signAt_40 (d + 7) S hs (S.1 40 7) q1 hq1 _ ?_))
  show X (8, [some (.ref 40), some (.int 2), none, none, none, none], [.int q1], st S hs, 0, 0)
  refine hX _ ?_
  clear hP hX hk P' X cal
  refine Wp.stepsG 4 (fun cal X P' hk hX hP => ?_)
  show (q1 = 33 → X (21, [some (.ref 40), some (.int 2), some (.int q1), none, none, none], [], st S hs, 0, 0)) ∧ (¬ q1 = 33 → X (15, [some (.ref 40), some (.int 2), some (.int q1), none, none, none], [], st S hs, 0, 0))
  refine ⟨fun hc => hX _ ?_, fun hc => hX _ ?_⟩
  · clear hP hX hk P' X cal
    rw [if_pos hc] at hr
    refine Wp.stepsG 3 (fun cal X P' hk hX hP => ?_)
    show ((2 : Int32) < 4 → X (28, [some (.ref 40), some (.int 2), some (.int q1), none, none, none], [], st S hs, 0, 0)) ∧ (¬ (2 : Int32) < 4 → X (26, [some (.ref 40), some (.int 2), some (.int q1), none, none, none], [], st S hs, 0, 0))
    refine ⟨fun _ => hX _ ?_, fun hc => absurd hc (by decide)⟩
    clear hP hX hk P' X cal
    refine Wp.stepsG 9 (fun cal X P' hk hX hP => ?_)
    show (¬ q1 = 33 → X (72, [some (.ref 40), some (.int 2), some (.int q1), none, none, none], [], st (sI S 40 7 ((S.1 40 7) + 1)) hs, 0, 0)) ∧ (q1 = 33 → X (44, [some (.ref 40), some (.int 2), some (.int q1), none, none, none], [], st (sI S 40 7 ((S.1 40 7) + 1)) hs, 0, 0))
    refine ⟨fun hc => hX _ ?_, fun hc => hX _ ?_⟩
    · clear hP hX hk P' X cal
      rw [if_neg hc] at hr
      refine Wp.stepsG 5 (fun cal X P' hk hX hP => ?_)
      show kcall cal ix_X5_learnEither [.ref 40, .int 3] (st (sI S 40 7 ((S.1 40 7) + 1)) hs) [] 0 0 (0, 0) (fun v σ' c' m' => X (79, [some (.ref 40), some (.int 2), some (.int q1), none, none, none], v.toList ++ [], σ', c', m'))
      obtain ⟨q2, hq2, hr⟩ := bd_some hr
      refine kcall0 rfl (hk _ _ _ _ _ _ (e_X5_learnEither_d3_40 (d + 0) (sI S 40 7 ((S.1 40 7) + 1)) hs q2 hq2 _ ?_))
      show X (79, [some (.ref 40), some (.int 2), some (.int q1), none, none, none], [.int q2.1], st q2.2 hs, 0, 0)
      refine hX _ ?_
      clear hP hX hk P' X cal
      refine Wp.stepsG 1 (fun cal X P' hk hX hP => ?_)
      show (q2.1 = 0 → X (95, [some (.ref 40), some (.int 2), some (.int q1), none, none, none], [], st q2.2 hs, 0, 0)) ∧ (¬ q2.1 = 0 → X (82, [some (.ref 40), some (.int 2), some (.int q1), none, none, none], [], st q2.2 hs, 0, 0))
      refine ⟨fun hc => hX _ ?_, fun hc => hX _ ?_⟩
      · clear hP hX hk P' X cal
        rw [if_pos hc] at hr
        have hr := Option.some.inj hr
        subst hr
        refine Wp.stepsG 2 (fun cal X P' hk hX hP => ?_)
        exact ⟨Or.inl rfl, hP _ _ h⟩
      · clear hP hX hk P' X cal
        rw [if_neg hc] at hr
        refine Wp.stepsG 3 (fun cal X P' hk hX hP => ?_)
        show kcall cal ix_X5_goBy [.ref 40, .int 41] (st q2.2 hs) [] 0 0 (0, 0) (fun v σ' c' m' => X (88, [some (.ref 40), some (.int 2), some (.int q1), none, none, none], v.toList ++ [], σ', c', m'))
        obtain ⟨q3, hq3, hr⟩ := bd_some hr
        refine kcall0 rfl (hk _ _ _ _ _ _ (e_X5_goBy_40 (d + 6) q2.2 hs 41 q3 hq3 _ ?_))
        show X (88, [some (.ref 40), some (.int 2), some (.int q1), none, none, none], [.int q3.1], st q3.2 hs, 0, 0)
        refine hX _ ?_
        clear hP hX hk P' X cal
        refine Wp.stepsG 1 (fun cal X P' hk hX hP => ?_)
        show (q3.1 = 0 → X (95, [some (.ref 40), some (.int 2), some (.int q1), none, none, none], [], st q3.2 hs, 0, 0)) ∧ (¬ q3.1 = 0 → X (91, [some (.ref 40), some (.int 2), some (.int q1), none, none, none], [], st q3.2 hs, 0, 0))
        refine ⟨fun hc => hX _ ?_, fun hc => hX _ ?_⟩
        · clear hP hX hk P' X cal
          rw [if_pos hc] at hr
          have hr := Option.some.inj hr
          subst hr
          refine Wp.stepsG 2 (fun cal X P' hk hX hP => ?_)
          exact ⟨Or.inl rfl, hP _ _ h⟩
        · clear hP hX hk P' X cal
          rw [if_neg hc] at hr
          have hr := Option.some.inj hr
          subst hr
          refine Wp.stepsG 3 (fun cal X P' hk hX hP => ?_)
          exact ⟨Or.inr rfl, hP _ _ h⟩
    · clear hP hX hk P' X cal
      rw [if_pos hc] at hr
      refine Wp.stepsG 5 (fun cal X P' hk hX hP => ?_)
      show kcall cal ix_X5_learnPart [.ref 40, .int 3] (st (sI S 40 7 ((S.1 40 7) + 1)) hs) [] 0 0 (0, 0) (fun v σ' c' m' => X (51, [some (.ref 40), some (.int 2), some (.int q1), none, none, none], v.toList ++ [], σ', c', m'))
      obtain ⟨q4, hq4, hr⟩ := bd_some hr
      refine kcall0 rfl (hk _ _ _ _ _ _ (e_X5_learnPart_d3_40 (d + 2) (sI S 40 7 ((S.1 40 7) + 1)) hs q4 hq4 _ ?_))
      show X (51, [some (.ref 40), some (.int 2), some (.int q1), none, none, none], [.int q4.1], st q4.2 hs, 0, 0)
      refine hX _ ?_
      clear hP hX hk P' X cal
      refine Wp.stepsG 1 (fun cal X P' hk hX hP => ?_)
      show (q4.1 = 0 → X (68, [some (.ref 40), some (.int 2), some (.int q1), none, none, none], [], st q4.2 hs, 0, 0)) ∧ (¬ q4.1 = 0 → X (54, [some (.ref 40), some (.int 2), some (.int q1), none, none, none], [], st q4.2 hs, 0, 0))
      refine ⟨fun hc => hX _ ?_, fun hc => hX _ ?_⟩
      · clear hP hX hk P' X cal
        rw [if_pos hc] at hr
        have hr := Option.some.inj hr
        subst hr
        refine Wp.stepsG 3 (fun cal X P' hk hX hP => ?_)
        exact ⟨Or.inl rfl, hP _ _ h⟩
      · clear hP hX hk P' X cal
        rw [if_neg hc] at hr
        refine Wp.stepsG 4 (fun cal X P' hk hX hP => ?_)
        show kcall cal ix_X5_add [.ref 40, .int 18, .int 0] (st q4.2 hs) [] 0 0 (0, 0) (fun v σ' c' m' => X (61, [some (.ref 40), some (.int 2), some (.int q1), none, none, none], v.toList ++ [], σ', c', m'))
        obtain ⟨q5, hq5, hr⟩ := bd_some hr
        refine kcall0 rfl (hk _ _ _ _ _ _ (e_X5_add_40 (d + 7) q4.2 hs 18 0 q5 hq5 _ ?_))
        show X (61, [some (.ref 40), some (.int 2), some (.int q1), none, none, none], [.int q5.1], st q5.2 hs, 0, 0)
        refine hX _ ?_
        clear hP hX hk P' X cal
        refine Wp.stepsG 1 (fun cal X P' hk hX hP => ?_)
        show (q5.1 = 0 → X (68, [some (.ref 40), some (.int 2), some (.int q1), none, none, none], [], st q5.2 hs, 0, 0)) ∧ (¬ q5.1 = 0 → X (64, [some (.ref 40), some (.int 2), some (.int q1), none, none, none], [], st q5.2 hs, 0, 0))
        refine ⟨fun hc => hX _ ?_, fun hc => hX _ ?_⟩
        · clear hP hX hk P' X cal
          rw [if_pos hc] at hr
          have hr := Option.some.inj hr
          subst hr
          refine Wp.stepsG 3 (fun cal X P' hk hX hP => ?_)
          exact ⟨Or.inl rfl, hP _ _ h⟩
        · clear hP hX hk P' X cal
          rw [if_neg hc] at hr
          have hr := Option.some.inj hr
          subst hr
          refine Wp.stepsG 3 (fun cal X P' hk hX hP => ?_)
          exact ⟨Or.inr rfl, hP _ _ h⟩
  · clear hP hX hk P' X cal
    rw [if_neg hc] at hr
    refine Wp.stepsG 3 (fun cal X P' hk hX hP => ?_)
    show (¬ q1 = 40 → X (97, [some (.ref 40), some (.int 2), some (.int q1), none, none, none], [], st S hs, 0, 0)) ∧ (q1 = 40 → X (21, [some (.ref 40), some (.int 2), some (.int q1), none, none, none], [], st S hs, 0, 0))
    refine ⟨fun hc => hX _ ?_, fun hc => hX _ ?_⟩
    · clear hP hX hk P' X cal
      rw [if_neg hc] at hr
      refine Wp.stepsG 3 (fun cal X P' hk hX hP => ?_)
      show kcall cal ix_X5_goByOneOf [.ref 40, .ref 1] (st S hs) [] 0 0 (0, 0) (fun v σ' c' m' => X (103, [some (.ref 40), some (.int 2), some (.int q1), none, none, none], v.toList ++ [], σ', c', m'))
      obtain ⟨q6, hq6, hr⟩ := bd_some hr
      refine kcall0 rfl (hk _ _ _ _ _ _ (e_X5_goByOneOf_1_40 (d + 6) S hs q6 hq6 _ ?_))
      show X (103, [some (.ref 40), some (.int 2), some (.int q1), none, none, none], [.int q6.1], st q6.2 hs, 0, 0)
      refine hX _ ?_
      clear hP hX hk P' X cal
      refine Wp.stepsG 3 (fun cal X P' hk hX hP => ?_)
      show (0 ≤ q6.1 → X (112, [some (.ref 40), some (.int 2), some (.int q1), some (.int q6.1), none, none], [], st q6.2 hs, 0, 0)) ∧ (¬ 0 ≤ q6.1 → X (108, [some (.ref 40), some (.int 2), some (.int q1), some (.int q6.1), none, none], [], st q6.2 hs, 0, 0))
      refine ⟨fun hc => hX _ ?_, fun hc => hX _ ?_⟩
      · clear hP hX hk P' X cal
        rw [if_pos hc] at hr
        refine Wp.stepsG 3 (fun cal X P' hk hX hP => ?_)
        show kcall cal ix_X5_goByOneOf [.ref 40, .ref 2] (st q6.2 hs) [] 0 0 (0, 0) (fun v σ' c' m' => X (118, [some (.ref 40), some (.int 2), some (.int q1), some (.int q6.1), none, none], v.toList ++ [], σ', c', m'))
        obtain ⟨q7, hq7, hr⟩ := bd_some hr
        refine kcall0 rfl (hk _ _ _ _ _ _ (e_X5_goByOneOf_2_40 (d + 6) q6.2 hs q7 hq7 _ ?_))
        show X (118, [some (.ref 40), some (.int 2), some (.int q1), some (.int q6.1), none, none], [.int q7.1], st q7.2 hs, 0, 0)
        refine hX _ ?_
        clear hP hX hk P' X cal
        refine Wp.stepsG 3 (fun cal X P' hk hX hP => ?_)
        show (0 ≤ q7.1 → X (129, [some (.ref 40), some (.int 2), some (.int q1), some (.int q6.1), some (.int q7.1), none], [], st q7.2 hs, 0, 0)) ∧ (¬ 0 ≤ q7.1 → X (125, [some (.ref 40), some (.int 2), some (.int q1), some (.int q6.1), some (.int q7.1), none], [], st q7.2 hs, 0, 0))
        refine ⟨fun hc => hX _ ?_, fun hc => hX _ ?_⟩
        · clear hP hX hk P' X cal
          rw [if_pos hc] at hr
          refine Wp.stepsG 2 (fun cal X P' hk hX hP => ?_)
          show kcall cal ix_X5_goByNumber [.ref 40] (st q7.2 hs) [] 0 0 (0, 0) (fun v σ' c' m' => X (133, [some (.ref 40), some (.int 2), some (.int q1), some (.int q6.1), some (.int q7.1), none], v.toList ++ [], σ', c', m'))
          obtain ⟨q8, hq8, hr⟩ := bd_some hr
          refine kcall0 rfl (hk _ _ _ _ _ _ (e_X5_goByNumber_40 (d + 6) q7.2 hs q8 hq8 _ ?_))
          show X (133, [some (.ref 40), some (.int 2), some (.int q1), some (.int q6.1), some (.int q7.1), none], [.int q8.1], st q8.2 hs, 0, 0)
          refine hX _ ?_
          clear hP hX hk P' X cal
          refine Wp.stepsG 3 (fun cal X P' hk hX hP => ?_)
          show (q8.1 < 0 → X (159, [some (.ref 40), some (.int 2), some (.int q1), some (.int q6.1), some (.int q7.1), some (.int q8.1)], [], st q8.2 hs, 0, 0)) ∧ (¬ q8.1 < 0 → X (140, [some (.ref 40), some (.int 2), some (.int q1), some (.int q6.1), some (.int q7.1), some (.int q8.1)], [], st q8.2 hs, 0, 0))
          refine ⟨fun hc => hX _ ?_, fun hc => hX _ ?_⟩
          · clear hP hX hk P' X cal
            rw [if_pos hc] at hr
            have hr := Option.some.inj hr
            subst hr
            refine Wp.stepsG 2 (fun cal X P' hk hX hP => ?_)
            exact ⟨Or.inl rfl, hP _ _ h⟩
          · clear hP hX hk P' X cal
            rw [if_neg hc] at hr
            refine Wp.stepsG 8 (fun cal X P' hk hX hP => ?_)
            show kcall cal ix_X5_add [.ref 40, .int (((3 : Int32) * q6.1) + q7.1), .int q8.1] (st q8.2 hs) [] 0 0 (0, 0) (fun v σ' c' m' => X (152, [some (.ref 40), some (.int 2), some (.int q1), some (.int q6.1), some (.int q7.1), some (.int q8.1)], v.toList ++ [], σ', c', m'))
            obtain ⟨q9, hq9, hr⟩ := bd_some hr
            refine kcall0 rfl (hk _ _ _ _ _ _ (e_X5_add_40 (d + 7) q8.2 hs (((3 : Int32) * q6.1) + q7.1) q8.1 q9 hq9 _ ?_))
            show X (152, [some (.ref 40), some (.int 2), some (.int q1), some (.int q6.1), some (.int q7.1), some (.int q8.1)], [.int q9.1], st q9.2 hs, 0, 0)
            refine hX _ ?_
            clear hP hX hk P' X cal
            refine Wp.stepsG 1 (fun cal X P' hk hX hP => ?_)
            show (q9.1 = 0 → X (159, [some (.ref 40), some (.int 2), some (.int q1), some (.int q6.1), some (.int q7.1), some (.int q8.1)], [], st q9.2 hs, 0, 0)) ∧ (¬ q9.1 = 0 → X (155, [some (.ref 40), some (.int 2), some (.int q1), some (.int q6.1), some (.int q7.1), some (.int q8.1)], [], st q9.2 hs, 0, 0))
            refine ⟨fun hc => hX _ ?_, fun hc => hX _ ?_⟩
            · clear hP hX hk P' X cal
              rw [if_pos hc] at hr
              have hr := Option.some.inj hr
              subst hr
              refine Wp.stepsG 2 (fun cal X P' hk hX hP => ?_)
              exact ⟨Or.inl rfl, hP _ _ h⟩
            · clear hP hX hk P' X cal
              rw [if_neg hc] at hr
              have hr := Option.some.inj hr
              subst hr
              refine Wp.stepsG 3 (fun cal X P' hk hX hP => ?_)
              exact ⟨Or.inr rfl, hP _ _ h⟩
        · clear hP hX hk P' X cal
          rw [if_neg hc] at hr
          refine Wp.stepsG 5 (fun cal X P' hk hX hP => ?_)
          show (((-1) : Int32) < 0 → X (159, [some (.ref 40), some (.int 2), some (.int q1), some (.int q6.1), some (.int q7.1), some (.int (-1))], [], st q7.2 hs, 0, 0)) ∧ (¬ ((-1) : Int32) < 0 → X (140, [some (.ref 40), some (.int 2), some (.int q1), some (.int q6.1), some (.int q7.1), some (.int (-1))], [], st q7.2 hs, 0, 0))
          refine ⟨fun _ => hX _ ?_, fun hc => absurd hc (by decide)⟩
          clear hP hX hk P' X cal
          have hr := Option.some.inj hr
          subst hr
          refine Wp.stepsG 2 (fun cal X P' hk hX hP => ?_)
          exact ⟨Or.inl rfl, hP _ _ h⟩
      · clear hP hX hk P' X cal
        rw [if_neg hc] at hr
        refine Wp.stepsG 5 (fun cal X P' hk hX hP => ?_)
        show (0 ≤ ((-1) : Int32) → X (129, [some (.ref 40), some (.int 2), some (.int q1), some (.int q6.1), some (.int (-1)), none], [], st q6.2 hs, 0, 0)) ∧ (¬ 0 ≤ ((-1) : Int32) → X (125, [some (.ref 40), some (.int 2), some (.int q1), some (.int q6.1), some (.int (-1)), none], [], st q6.2 hs, 0, 0))
        refine ⟨fun hc => absurd hc (by decide), fun _ => hX _ ?_⟩
        clear hP hX hk P' X cal
        refine Wp.stepsG 5 (fun cal X P' hk hX hP => ?_)
        show (((-1) : Int32) < 0 → X (159, [some (.ref 40), some (.int 2), some (.int q1), some (.int q6.1), some (.int (-1)), some (.int (-1))], [], st q6.2 hs, 0, 0)) ∧ (¬ ((-1) : Int32) < 0 → X (140, [some (.ref 40), some (.int 2), some (.int q1), some (.int q6.1), some (.int (-1)), some (.int (-1))], [], st q6.2 hs, 0, 0))
        refine ⟨fun _ => hX _ ?_, fun hc => absurd hc (by decide)⟩
        clear hP hX hk P' X cal
        have hr := Option.some.inj hr
        subst hr
        refine Wp.stepsG 2 (fun cal X P' hk hX hP => ?_)
        exact ⟨Or.inl rfl, hP _ _ h⟩
    · clear hP hX hk P' X cal
      rw [if_pos hc] at hr
      refine Wp.stepsG 3 (fun cal X P' hk hX hP => ?_)
      show ((2 : Int32) < 4 → X (28, [some (.ref 40), some (.int 2), some (.int q1), none, none, none], [], st S hs, 0, 0)) ∧ (¬ (2 : Int32) < 4 → X (26, [some (.ref 40), some (.int 2), some (.int q1), none, none, none], [], st S hs, 0, 0))
      refine ⟨fun _ => hX _ ?_, fun hc => absurd hc (by decide)⟩
      clear hP hX hk P' X cal
      refine Wp.stepsG 9 (fun cal X P' hk hX hP => ?_)
      show (¬ q1 = 33 → X (72, [some (.ref 40), some (.int 2), some (.int q1), none, none, none], [], st (sI S 40 7 ((S.1 40 7) + 1)) hs, 0, 0)) ∧ (q1 = 33 → X (44, [some (.ref 40), some (.int 2), some (.int q1), none, none, none], [], st (sI S 40 7 ((S.1 40 7) + 1)) hs, 0, 0))
      refine ⟨fun hc => hX _ ?_, fun hc => hX _ ?_⟩
      · clear hP hX hk P' X cal
        rw [if_neg hc] at hr
        refine Wp.stepsG 5 (fun cal X P' hk hX hP => ?_)
        show kcall cal ix_X5_learnEither [.ref 40, .int 3] (st (sI S 40 7 ((S.1 40 7) + 1)) hs) [] 0 0 (0, 0) (fun v σ' c' m' => X (79, [some (.ref 40), some (.int 2), some (.int q1), none, none, none], v.toList ++ [], σ', c', m'))
        obtain ⟨q10, hq10, hr⟩ := bd_some hr
        refine kcall0 rfl (hk _ _ _ _ _ _ (e_X5_learnEither_d3_40 (d + 0) (sI S 40 7 ((S.1 40 7) + 1)) hs q10 hq10 _ ?_))
        show X (79, [some (.ref 40), some (.int 2), some (.int q1), none, none, none], [.int q10.1], st q10.2 hs, 0, 0)
        refine hX _ ?_
        clear hP hX hk P' X cal
        refine Wp.stepsG 1 (fun cal X P' hk hX hP => ?_)
        show (q10.1 = 0 → X (95, [some (.ref 40), some (.int 2), some (.int q1), none, none, none], [], st q10.2 hs, 0, 0)) ∧ (¬ q10.1 = 0 → X (82, [some (.ref 40), some (.int 2), some (.int q1), none, none, none], [], st q10.2 hs, 0, 0))
        refine ⟨fun hc => hX _ ?_, fun hc => hX _ ?_⟩
        · clear hP hX hk P' X cal
          rw [if_pos hc] at hr
          have hr := Option.some.inj hr
          subst hr
          refine Wp.stepsG 2 (fun cal X P' hk hX hP => ?_)
          exact ⟨Or.inl rfl, hP _ _ h⟩
        · clear hP hX hk P' X cal
          rw [if_neg hc] at hr
          refine Wp.stepsG 3 (fun cal X P' hk hX hP => ?_)
          show kcall cal ix_X5_goBy [.ref 40, .int 41] (st q10.2 hs) [] 0 0 (0, 0) (fun v σ' c' m' => X (88, [some (.ref 40), some (.int 2), some (.int q1), none, none, none], v.toList ++ [], σ', c', m'))
          obtain ⟨q11, hq11, hr⟩ := bd_some hr
          refine kcall0 rfl (hk _ _ _ _ _ _ (e_X5_goBy_40 (d + 6) q10.2 hs 41 q11 hq11 _ ?_))
          show X (88, [some (.ref 40), some (.int 2), some (.int q1), none, none, none], [.int q11.1], st q11.2 hs, 0, 0)
          refine hX _ ?_
          clear hP hX hk P' X cal
          refine Wp.stepsG 1 (fun cal X P' hk hX hP => ?_)
          show (q11.1 = 0 → X (95, [some (.ref 40), some (.int 2), some (.int q1), none, none, none], [], st q11.2 hs, 0, 0)) ∧ (¬ q11.1 = 0 → X (91, [some (.ref 40), some (.int 2), some (.int q1), none, none, none], [], st q11.2 hs, 0, 0))
          refine ⟨fun hc => hX _ ?_, fun hc => hX _ ?_⟩
          · clear hP hX hk P' X cal
            rw [if_pos hc] at hr
            have hr := Option.some.inj hr
            subst hr
            refine Wp.stepsG 2 (fun cal X P' hk hX hP => ?_)
            exact ⟨Or.inl rfl, hP _ _ h⟩
          · clear hP hX hk P' X cal
            rw [if_neg hc] at hr
            have hr := Option.some.inj hr
            subst hr
            refine Wp.stepsG 3 (fun cal X P' hk hX hP => ?_)
            exact ⟨Or.inr rfl, hP _ _ h⟩
      · clear hP hX hk P' X cal
        rw [if_pos hc] at hr
        refine Wp.stepsG 5 (fun cal X P' hk hX hP => ?_)
        show kcall cal ix_X5_learnPart [.ref 40, .int 3] (st (sI S 40 7 ((S.1 40 7) + 1)) hs) [] 0 0 (0, 0) (fun v σ' c' m' => X (51, [some (.ref 40), some (.int 2), some (.int q1), none, none, none], v.toList ++ [], σ', c', m'))
        obtain ⟨q12, hq12, hr⟩ := bd_some hr
        refine kcall0 rfl (hk _ _ _ _ _ _ (e_X5_learnPart_d3_40 (d + 2) (sI S 40 7 ((S.1 40 7) + 1)) hs q12 hq12 _ ?_))
        show X (51, [some (.ref 40), some (.int 2), some (.int q1), none, none, none], [.int q12.1], st q12.2 hs, 0, 0)
        refine hX _ ?_
        clear hP hX hk P' X cal
        refine Wp.stepsG 1 (fun cal X P' hk hX hP => ?_)
        show (q12.1 = 0 → X (68, [some (.ref 40), some (.int 2), some (.int q1), none, none, none], [], st q12.2 hs, 0, 0)) ∧ (¬ q12.1 = 0 → X (54, [some (.ref 40), some (.int 2), some (.int q1), none, none, none], [], st q12.2 hs, 0, 0))
        refine ⟨fun hc => hX _ ?_, fun hc => hX _ ?_⟩
        · clear hP hX hk P' X cal
          rw [if_pos hc] at hr
          have hr := Option.some.inj hr
          subst hr
          refine Wp.stepsG 3 (fun cal X P' hk hX hP => ?_)
          exact ⟨Or.inl rfl, hP _ _ h⟩
        · clear hP hX hk P' X cal
          rw [if_neg hc] at hr
          refine Wp.stepsG 4 (fun cal X P' hk hX hP => ?_)
          show kcall cal ix_X5_add [.ref 40, .int 18, .int 0] (st q12.2 hs) [] 0 0 (0, 0) (fun v σ' c' m' => X (61, [some (.ref 40), some (.int 2), some (.int q1), none, none, none], v.toList ++ [], σ', c', m'))
          obtain ⟨q13, hq13, hr⟩ := bd_some hr
          refine kcall0 rfl (hk _ _ _ _ _ _ (e_X5_add_40 (d + 7) q12.2 hs 18 0 q13 hq13 _ ?_))
          show X (61, [some (.ref 40), some (.int 2), some (.int q1), none, none, none], [.int q13.1], st q13.2 hs, 0, 0)
          refine hX _ ?_
          clear hP hX hk P' X cal
          refine Wp.stepsG 1 (fun cal X P' hk hX hP => ?_)
          show (q13.1 = 0 → X (68, [some (.ref 40), some (.int 2), some (.int q1), none, none, none], [], st q13.2 hs, 0, 0)) ∧ (¬ q13.1 = 0 → X (64, [some (.ref 40), some (.int 2), some (.int q1), none, none, none], [], st q13.2 hs, 0, 0))
          refine ⟨fun hc => hX _ ?_, fun hc => hX _ ?_⟩
          · clear hP hX hk P' X cal
            rw [if_pos hc] at hr
            have hr := Option.some.inj hr
            subst hr
            refine Wp.stepsG 3 (fun cal X P' hk hX hP => ?_)
            exact ⟨Or.inl rfl, hP _ _ h⟩
          · clear hP hX hk P' X cal
            rw [if_neg hc] at hr
            have hr := Option.some.inj hr
            subst hr
            refine Wp.stepsG 3 (fun cal X P' hk hX hP => ?_)
            exact ⟨Or.inr rfl, hP _ _ h⟩
def lp_X5_learnBoth_d2_8 (o : Nat) : Nat → Int32 → Int32 → St → Option (Int32 × St)
  | 0, _, _, _ => none
  | n + 1, v2, v3, S =>
    if 100 ≤ v3 then
      some (v2, S)
    else
      if v2 = 0 then
        some (v2, S)
      else
        (r_X5_goBy S o 38).bind fun q2 =>
        if q2.1 = 0 then
          some (v2, q2.2)
        else
          (r_X5_learnPart_d2 q2.2 o).bind fun q3 =>
          if q3.1 = 0 then
            lp_X5_learnBoth_d2_8 o n 0 (v3 + 1) q3.2
          else
            (r_X5_add q3.2 o 19 0).bind fun q4 =>
            if q4.1 = 0 then
              lp_X5_learnBoth_d2_8 o n 0 (v3 + 1) q4.2
            else
              lp_X5_learnBoth_d2_8 o n 1 (v3 + 1) q4.2
def r_X5_learnBoth_d2 (S : St) (o : Nat) : Option (Int32 × St) :=
  (r_X5_learnPart_d2 S o).bind fun q1 =>
  (lp_X5_learnBoth_d2_8 o 4000 q1.1 0 q1.2).bind fun q5 =>
    gd (q5.1 = 0 ∨ q5.1 = 1) (some (q5.1, q5.2))
set_option maxRecDepth 20000 in
set_option maxHeartbeats 4000000 in
theorem e_lp_X5_learnBoth_d2_8_40 (d : Nat) (hs : List Hr) (P : Option Value → Hp → Prop) : ∀ (n : Nat) (v2 : Int32) (v3 : Int32) (S : St) (q : Int32 × St), lp_X5_learnBoth_d2_8 40 n v2 v3 S = some q → (WM mi_X5_learnBoth (d + 9) P 57 [some (.ref 40), some (.int 2), some (.int q.1), none] [] (st q.2 hs)) → WM mi_X5_learnBoth (d + 9) P 8 [some (.ref 40), some (.int 2), some (.int v2), some (.int v3)] [] (st S hs) := by
  intro n
  induction n with
  | zero =>
    intro v2 v3 S q hl
    cases hl
  | succ n ih =>
    intro v2 v3 S q hl ct
    rw [lp_X5_learnBoth_d2_8] at hl
    refine Wp.stepsG 3 (fun cal X P' hk hX hP => ?_)
    show (100 ≤ v3 → X (57, [some (.ref 40), some (.int 2), some (.int v2), some (.int v3)], [], st S hs, 0, 0)) ∧ (¬ 100 ≤ v3 → X (14, [some (.ref 40), some (.int 2), some (.int v2), some (.int v3)], [], st S hs, 0, 0))
    refine ⟨fun hc => hX _ ?_, fun hc => hX _ ?_⟩
    · clear hP hX hk P' X cal
      rw [if_pos hc] at hl
      have hl := Option.some.inj hl
      subst hl
      exact Wp.weak (leL.k (leL.k (leL.k (leL.n leL.z)))) (ct)
    · clear hP hX hk P' X cal
      rw [if_neg hc] at hl
      refine Wp.stepsG 2 (fun cal X P' hk hX hP => ?_)
      show (v2 = 0 → X (57, [some (.ref 40), some (.int 2), some (.int v2), some (.int v3)], [], st S hs, 0, 0)) ∧ (¬ v2 = 0 → X (18, [some (.ref 40), some (.int 2), some (.int v2), some (.int v3)], [], st S hs, 0, 0))
      refine ⟨fun hc => hX _ ?_, fun hc => hX _ ?_⟩
      · clear hP hX hk P' X cal
        rw [if_pos hc] at hl
        have hl := Option.some.inj hl
        subst hl
        exact Wp.weak (leL.k (leL.k (leL.k (leL.n leL.z)))) (ct)
      · clear hP hX hk P' X cal
        rw [if_neg hc] at hl
        refine Wp.stepsG 3 (fun cal X P' hk hX hP => ?_)
        show kcall cal ix_X5_goBy [.ref 40, .int 38] (st S hs) [] 0 0 (0, 0) (fun v σ' c' m' => X (24, [some (.ref 40), some (.int 2), some (.int v2), some (.int v3)], v.toList ++ [], σ', c', m'))
        obtain ⟨q2, hq2, hl⟩ := bd_some hl
        refine kcall0 rfl (hk _ _ _ _ _ _ (e_X5_goBy_40 (d + 7) S hs 38 q2 hq2 _ ?_))
        show X (24, [some (.ref 40), some (.int 2), some (.int v2), some (.int v3)], [.int q2.1], st q2.2 hs, 0, 0)
        refine hX _ ?_
        clear hP hX hk P' X cal
        refine Wp.stepsG 1 (fun cal X P' hk hX hP => ?_)
        show (q2.1 = 0 → X (57, [some (.ref 40), some (.int 2), some (.int v2), some (.int v3)], [], st q2.2 hs, 0, 0)) ∧ (¬ q2.1 = 0 → X (27, [some (.ref 40), some (.int 2), some (.int v2), some (.int v3)], [], st q2.2 hs, 0, 0))
        refine ⟨fun hc => hX _ ?_, fun hc => hX _ ?_⟩
        · clear hP hX hk P' X cal
          rw [if_pos hc] at hl
          have hl := Option.some.inj hl
          subst hl
          exact Wp.weak (leL.k (leL.k (leL.k (leL.n leL.z)))) (ct)
        · clear hP hX hk P' X cal
          rw [if_neg hc] at hl
          refine Wp.stepsG 3 (fun cal X P' hk hX hP => ?_)
          show kcall cal ix_X5_learnPart [.ref 40, .int 2] (st q2.2 hs) [] 0 0 (0, 0) (fun v σ' c' m' => X (32, [some (.ref 40), some (.int 2), some (.int v2), some (.int v3)], v.toList ++ [], σ', c', m'))
          obtain ⟨q3, hq3, hl⟩ := bd_some hl
          refine kcall0 rfl (hk _ _ _ _ _ _ (e_X5_learnPart_d2_40 (d + 0) q2.2 hs q3 hq3 _ ?_))
          show X (32, [some (.ref 40), some (.int 2), some (.int v2), some (.int v3)], [.int q3.1], st q3.2 hs, 0, 0)
          refine hX _ ?_
          clear hP hX hk P' X cal
          refine Wp.stepsG 1 (fun cal X P' hk hX hP => ?_)
          show (q3.1 = 0 → X (49, [some (.ref 40), some (.int 2), some (.int v2), some (.int v3)], [], st q3.2 hs, 0, 0)) ∧ (¬ q3.1 = 0 → X (35, [some (.ref 40), some (.int 2), some (.int v2), some (.int v3)], [], st q3.2 hs, 0, 0))
          refine ⟨fun hc => hX _ ?_, fun hc => hX _ ?_⟩
          · clear hP hX hk P' X cal
            rw [if_pos hc] at hl
            refine Wp.stepsG 4 (fun cal X P' hk hX hP => ?_)
            show X (8, [some (.ref 40), some (.int 2), some (.int 0), some (.int (v3 + 1))], [], st q3.2 hs, 0, 0)
            refine hX _ ?_
            exact (ih 0 (v3 + 1) q3.2 q hl ct)
          · clear hP hX hk P' X cal
            rw [if_neg hc] at hl
            refine Wp.stepsG 4 (fun cal X P' hk hX hP => ?_)
            show kcall cal ix_X5_add [.ref 40, .int 19, .int 0] (st q3.2 hs) [] 0 0 (0, 0) (fun v σ' c' m' => X (42, [some (.ref 40), some (.int 2), some (.int v2), some (.int v3)], v.toList ++ [], σ', c', m'))
            obtain ⟨q4, hq4, hl⟩ := bd_some hl
            refine kcall0 rfl (hk _ _ _ _ _ _ (e_X5_add_40 (d + 8) q3.2 hs 19 0 q4 hq4 _ ?_))
            show X (42, [some (.ref 40), some (.int 2), some (.int v2), some (.int v3)], [.int q4.1], st q4.2 hs, 0, 0)
            refine hX _ ?_
            clear hP hX hk P' X cal
            refine Wp.stepsG 1 (fun cal X P' hk hX hP => ?_)
            show (q4.1 = 0 → X (49, [some (.ref 40), some (.int 2), some (.int v2), some (.int v3)], [], st q4.2 hs, 0, 0)) ∧ (¬ q4.1 = 0 → X (45, [some (.ref 40), some (.int 2), some (.int v2), some (.int v3)], [], st q4.2 hs, 0, 0))
            refine ⟨fun hc => hX _ ?_, fun hc => hX _ ?_⟩
            · clear hP hX hk P' X cal
              rw [if_pos hc] at hl
              refine Wp.stepsG 4 (fun cal X P' hk hX hP => ?_)
              show X (8, [some (.ref 40), some (.int 2), some (.int 0), some (.int (v3 + 1))], [], st q4.2 hs, 0, 0)
              refine hX _ ?_
              exact (ih 0 (v3 + 1) q4.2 q hl ct)
            · clear hP hX hk P' X cal
              rw [if_neg hc] at hl
              refine Wp.stepsG 5 (fun cal X P' hk hX hP => ?_)
              show X (8, [some (.ref 40), some (.int 2), some (.int 1), some (.int (v3 + 1))], [], st q4.2 hs, 0, 0)
              refine hX _ ?_
              exact (ih 1 (v3 + 1) q4.2 q hl ct)
set_option maxRecDepth 20000 in
set_option maxHeartbeats 4000000 in
theorem e_X5_learnBoth_d2_40 (d : Nat) (S : St) (hs : List Hr) (v : Int32 × St) (hr : r_X5_learnBoth_d2 S 40 = some v) (P : Option Value → Hp → Prop) (h : P (some (.int v.1)) (st v.2 hs)) : Ev (d + 10) ix_X5_learnBoth 0 0 [.ref 40, .int 2] (st S hs) P := by
  refine Ev.intro (M := mi_X5_learnBoth) rfl (Nat.le_of_ble_eq_true rfl) ?_
  unfold r_X5_learnBoth_d2 at hr
  refine Wp.stepsG 3 (fun cal X P' hk hX hP => ?_)
  show kcall cal ix_X5_learnPart [.ref 40, .int 2] (st S hs) [] 0 0 (0, 0) (fun v σ' c' m' => X (5, [some (.ref 40), some (.int 2), none, none], v.toList ++ [], σ', c', m'))
  obtain ⟨q1, hq1, hr⟩ := bd_some hr
  refine kcall0 rfl (hk _ _ _ _ _ _ (e_X5_learnPart_d2_40 (d + 0) S hs q1 hq1 _ ?_))
  show X (5, [some (.ref 40), some (.int 2), none, none], [.int q1.1], st q1.2 hs, 0, 0)
  refine hX _ ?_
  clear hP hX hk P' X cal
  refine Wp.stepsG 3 (fun cal X P' hk hX hP => ?_)
  show X (8, [some (.ref 40), some (.int 2), some (.int q1.1), some (.int 0)], [], st q1.2 hs, 0, 0)
  refine hX _ ?_
  clear hP hX hk P' X cal
  obtain ⟨q5, hq5, hr⟩ := bd_some hr
  refine (e_lp_X5_learnBoth_d2_8_40 d hs P _ q1.1 0 q1.2 q5 hq5 ?_)
  obtain ⟨hb, hr⟩ := gd_some hr
  have hr := Option.some.inj hr
  subst hr
  refine Wp.stepsG 2 (fun cal X P' hk hX hP => ?_)
  exact ⟨hb, hP _ _ h⟩
def lp_X5_learnEither_d2_8 (o : Nat) : Nat → Int32 → Int32 → St → Option (Int32 × St)
  | 0, _, _, _ => none
  | n + 1, v2, v3, S =>
    if 100 ≤ v3 then
      some (v2, S)
    else
      if v2 = 0 then
        some (v2, S)
      else
        (r_X5_goBy S o 124).bind fun q2 =>
        if q2.1 = 0 then
          some (v2, q2.2)
        else
          (r_X5_learnBoth_d2 q2.2 o).bind fun q3 =>
          if q3.1 = 0 then
            lp_X5_learnEither_d2_8 o n 0 (v3 + 1) q3.2
          else
            (r_X5_add q3.2 o 20 0).bind fun q4 =>
            if q4.1 = 0 then
              lp_X5_learnEither_d2_8 o n 0 (v3 + 1) q4.2
            else
              lp_X5_learnEither_d2_8 o n 1 (v3 + 1) q4.2
def r_X5_learnEither_d2 (S : St) (o : Nat) : Option (Int32 × St) :=
  (r_X5_learnBoth_d2 S o).bind fun q1 =>
  (lp_X5_learnEither_d2_8 o 4000 q1.1 0 q1.2).bind fun q5 =>
    gd (q5.1 = 0 ∨ q5.1 = 1) (some (q5.1, q5.2))
set_option maxRecDepth 20000 in
set_option maxHeartbeats 4000000 in
theorem e_lp_X5_learnEither_d2_8_40 (d : Nat) (hs : List Hr) (P : Option Value → Hp → Prop) : ∀ (n : Nat) (v2 : Int32) (v3 : Int32) (S : St) (q : Int32 × St), lp_X5_learnEither_d2_8 40 n v2 v3 S = some q → (WM mi_X5_learnEither (d + 10) P 57 [some (.ref 40), some (.int 2), some (.int q.1), none] [] (st q.2 hs)) → WM mi_X5_learnEither (d + 10) P 8 [some (.ref 40), some (.int 2), some (.int v2), some (.int v3)] [] (st S hs) := by
  intro n
  induction n with
  | zero =>
    intro v2 v3 S q hl
    cases hl
  | succ n ih =>
    intro v2 v3 S q hl ct
    rw [lp_X5_learnEither_d2_8] at hl
    refine Wp.stepsG 3 (fun cal X P' hk hX hP => ?_)
    show (100 ≤ v3 → X (57, [some (.ref 40), some (.int 2), some (.int v2), some (.int v3)], [], st S hs, 0, 0)) ∧ (¬ 100 ≤ v3 → X (14, [some (.ref 40), some (.int 2), some (.int v2), some (.int v3)], [], st S hs, 0, 0))
    refine ⟨fun hc => hX _ ?_, fun hc => hX _ ?_⟩
    · clear hP hX hk P' X cal
      rw [if_pos hc] at hl
      have hl := Option.some.inj hl
      subst hl
      exact Wp.weak (leL.k (leL.k (leL.k (leL.n leL.z)))) (ct)
    · clear hP hX hk P' X cal
      rw [if_neg hc] at hl
      refine Wp.stepsG 2 (fun cal X P' hk hX hP => ?_)
      show (v2 = 0 → X (57, [some (.ref 40), some (.int 2), some (.int v2), some (.int v3)], [], st S hs, 0, 0)) ∧ (¬ v2 = 0 → X (18, [some (.ref 40), some (.int 2), some (.int v2), some (.int v3)], [], st S hs, 0, 0))
      refine ⟨fun hc => hX _ ?_, fun hc => hX _ ?_⟩
      · clear hP hX hk P' X cal
        rw [if_pos hc] at hl
        have hl := Option.some.inj hl
        subst hl
        exact Wp.weak (leL.k (leL.k (leL.k (leL.n leL.z)))) (ct)
      · clear hP hX hk P' X cal
        rw [if_neg hc] at hl
        refine Wp.stepsG 3 (fun cal X P' hk hX hP => ?_)
        show kcall cal ix_X5_goBy [.ref 40, .int 124] (st S hs) [] 0 0 (0, 0) (fun v σ' c' m' => X (24, [some (.ref 40), some (.int 2), some (.int v2), some (.int v3)], v.toList ++ [], σ', c', m'))
        obtain ⟨q2, hq2, hl⟩ := bd_some hl
        refine kcall0 rfl (hk _ _ _ _ _ _ (e_X5_goBy_40 (d + 8) S hs 124 q2 hq2 _ ?_))
        show X (24, [some (.ref 40), some (.int 2), some (.int v2), some (.int v3)], [.int q2.1], st q2.2 hs, 0, 0)
        refine hX _ ?_
        clear hP hX hk P' X cal
        refine Wp.stepsG 1 (fun cal X P' hk hX hP => ?_)
        show (q2.1 = 0 → X (57, [some (.ref 40), some (.int 2), some (.int v2), some (.int v3)], [], st q2.2 hs, 0, 0)) ∧ (¬ q2.1 = 0 → X (27, [some (.ref 40), some (.int 2), some (.int v2), some (.int v3)], [], st q2.2 hs, 0, 0))
        refine ⟨fun hc => hX _ ?_, fun hc => hX _ ?_⟩
        · clear hP hX hk P' X cal
          rw [if_pos hc] at hl
          have hl := Option.some.inj hl
          subst hl
          exact Wp.weak (leL.k (leL.k (leL.k (leL.n leL.z)))) (ct)
        · clear hP hX hk P' X cal
          rw [if_neg hc] at hl
          refine Wp.stepsG 3 (fun cal X P' hk hX hP => ?_)
          show kcall cal ix_X5_learnBoth [.ref 40, .int 2] (st q2.2 hs) [] 0 0 (0, 0) (fun v σ' c' m' => X (32, [some (.ref 40), some (.int 2), some (.int v2), some (.int v3)], v.toList ++ [], σ', c', m'))
          obtain ⟨q3, hq3, hl⟩ := bd_some hl
          refine kcall0 rfl (hk _ _ _ _ _ _ (e_X5_learnBoth_d2_40 (d + 0) q2.2 hs q3 hq3 _ ?_))
          show X (32, [some (.ref 40), some (.int 2), some (.int v2), some (.int v3)], [.int q3.1], st q3.2 hs, 0, 0)
          refine hX _ ?_
          clear hP hX hk P' X cal
          refine Wp.stepsG 1 (fun cal X P' hk hX hP => ?_)
          show (q3.1 = 0 → X (49, [some (.ref 40), some (.int 2), some (.int v2), some (.int v3)], [], st q3.2 hs, 0, 0)) ∧ (¬ q3.1 = 0 → X (35, [some (.ref 40), some (.int 2), some (.int v2), some (.int v3)], [], st q3.2 hs, 0, 0))
          refine ⟨fun hc => hX _ ?_, fun hc => hX _ ?_⟩
          · clear hP hX hk P' X cal
            rw [if_pos hc] at hl
            refine Wp.stepsG 4 (fun cal X P' hk hX hP => ?_)
            show X (8, [some (.ref 40), some (.int 2), some (.int 0), some (.int (v3 + 1))], [], st q3.2 hs, 0, 0)
            refine hX _ ?_
            exact (ih 0 (v3 + 1) q3.2 q hl ct)
          · clear hP hX hk P' X cal
            rw [if_neg hc] at hl
            refine Wp.stepsG 4 (fun cal X P' hk hX hP => ?_)
            show kcall cal ix_X5_add [.ref 40, .int 20, .int 0] (st q3.2 hs) [] 0 0 (0, 0) (fun v σ' c' m' => X (42, [some (.ref 40), some (.int 2), some (.int v2), some (.int v3)], v.toList ++ [], σ', c', m'))
            obtain ⟨q4, hq4, hl⟩ := bd_some hl
            refine kcall0 rfl (hk _ _ _ _ _ _ (e_X5_add_40 (d + 9) q3.2 hs 20 0 q4 hq4 _ ?_))
            show X (42, [some (.ref 40), some (.int 2), some (.int v2), some (.int v3)], [.int q4.1], st q4.2 hs, 0, 0)
            refine hX _ ?_
            clear hP hX hk P' X cal
            refine Wp.stepsG 1 (fun cal X P' hk hX hP => ?_)
            show (q4.1 = 0 → X (49, [some (.ref 40), some (.int 2), some (.int v2), some (.int v3)], [], st q4.2 hs, 0, 0)) ∧ (¬ q4.1 = 0 → X (45, [some (.ref 40), some (.int 2), some (.int v2), some (.int v3)], [], st q4.2 hs, 0, 0))
            refine ⟨fun hc => hX _ ?_, fun hc => hX _ ?_⟩
            · clear hP hX hk P' X cal
              rw [if_pos hc] at hl
              refine Wp.stepsG 4 (fun cal X P' hk hX hP => ?_)
              show X (8, [some (.ref 40), some (.int 2), some (.int 0), some (.int (v3 + 1))], [], st q4.2 hs, 0, 0)
              refine hX _ ?_
              exact (ih 0 (v3 + 1) q4.2 q hl ct)
            · clear hP hX hk P' X cal
              rw [if_neg hc] at hl
              refine Wp.stepsG 5 (fun cal X P' hk hX hP => ?_)
              show X (8, [some (.ref 40), some (.int 2), some (.int 1), some (.int (v3 + 1))], [], st q4.2 hs, 0, 0)
              refine hX _ ?_
              exact (ih 1 (v3 + 1) q4.2 q hl ct)
set_option maxRecDepth 20000 in
set_option maxHeartbeats 4000000 in
theorem e_X5_learnEither_d2_40 (d : Nat) (S : St) (hs : List Hr) (v : Int32 × St) (hr : r_X5_learnEither_d2 S 40 = some v) (P : Option Value → Hp → Prop) (h : P (some (.int v.1)) (st v.2 hs)) : Ev (d + 11) ix_X5_learnEither 0 0 [.ref 40, .int 2] (st S hs) P := by
  refine Ev.intro (M := mi_X5_learnEither) rfl (Nat.le_of_ble_eq_true rfl) ?_
  unfold r_X5_learnEither_d2 at hr
  refine Wp.stepsG 3 (fun cal X P' hk hX hP => ?_)
  show kcall cal ix_X5_learnBoth [.ref 40, .int 2] (st S hs) [] 0 0 (0, 0) (fun v σ' c' m' => X (5, [some (.ref 40), some (.int 2), none, none], v.toList ++ [], σ', c', m'))
  obtain ⟨q1, hq1, hr⟩ := bd_some hr
  refine kcall0 rfl (hk _ _ _ _ _ _ (e_X5_learnBoth_d2_40 (d + 0) S hs q1 hq1 _ ?_))
  show X (5, [some (.ref 40), some (.int 2), none, none], [.int q1.1], st q1.2 hs, 0, 0)
  refine hX _ ?_
  clear hP hX hk P' X cal
  refine Wp.stepsG 3 (fun cal X P' hk hX hP => ?_)
  show X (8, [some (.ref 40), some (.int 2), some (.int q1.1), some (.int 0)], [], st q1.2 hs, 0, 0)
  refine hX _ ?_
  clear hP hX hk P' X cal
  obtain ⟨q5, hq5, hr⟩ := bd_some hr
  refine (e_lp_X5_learnEither_d2_8_40 d hs P _ q1.1 0 q1.2 q5 hq5 ?_)
  obtain ⟨hb, hr⟩ := gd_some hr
  have hr := Option.some.inj hr
  subst hr
  refine Wp.stepsG 2 (fun cal X P' hk hX hP => ?_)
  exact ⟨hb, hP _ _ h⟩
def r_X5_learnPart_d1 (S : St) (o : Nat) : Option (Int32 × St) :=
  (r_X5_signAt S o (S.1 o 7)).bind fun q1 =>
  if q1 = 33 then
    if q1 = 33 then
      (r_X5_learnPart_d2 (sI S o 7 ((S.1 o 7) + 1)) o).bind fun q4 =>
      if q4.1 = 0 then
        some (0, q4.2)
      else
        (r_X5_add q4.2 o 18 0).bind fun q5 =>
        if q5.1 = 0 then
          some (0, q5.2)
        else
          some (1, q5.2)
    else
      (r_X5_learnEither_d2 (sI S o 7 ((S.1 o 7) + 1)) o).bind fun q2 =>
      if q2.1 = 0 then
        some (0, q2.2)
      else
        (r_X5_goBy q2.2 o 41).bind fun q3 =>
        if q3.1 = 0 then
          some (0, q3.2)
        else
          some (1, q3.2)
  else
    if q1 = 40 then
      if q1 = 33 then
        (r_X5_learnPart_d2 (sI S o 7 ((S.1 o 7) + 1)) o).bind fun q12 =>
        if q12.1 = 0 then
          some (0, q12.2)
        else
          (r_X5_add q12.2 o 18 0).bind fun q13 =>
          if q13.1 = 0 then
            some (0, q13.2)
          else
            some (1, q13.2)
      else
        (r_X5_learnEither_d2 (sI S o 7 ((S.1 o 7) + 1)) o).bind fun q10 =>
        if q10.1 = 0 then
          some (0, q10.2)
        else
          (r_X5_goBy q10.2 o 41).bind fun q11 =>
          if q11.1 = 0 then
            some (0, q11.2)
          else
            some (1, q11.2)
    else
      (r_X5_goByOneOf_1 S o).bind fun q6 =>
      if 0 ≤ q6.1 then
        (r_X5_goByOneOf_2 q6.2 o).bind fun q7 =>
        if 0 ≤ q7.1 then
          (r_X5_goByNumber q7.2 o).bind fun q8 =>
          if q8.1 < 0 then
            some (0, q8.2)
          else
            (r_X5_add q8.2 o (((3 : Int32) * q6.1) + q7.1) q8.1).bind fun q9 =>
            if q9.1 = 0 then
              some (0, q9.2)
            else
              some (1, q9.2)
        else
          some (0, q7.2)
      else
        some (0, q6.2)
set_option maxRecDepth 20000 in
set_option maxHeartbeats 4000000 in
theorem e_X5_learnPart_d1_40 (d : Nat) (S : St) (hs : List Hr) (v : Int32 × St) (hr : r_X5_learnPart_d1 S 40 = some v) (P : Option Value → Hp → Prop) (h : P (some (.int v.1)) (st v.2 hs)) : Ev (d + 12) ix_X5_learnPart 0 0 [.ref 40, .int 1] (st S hs) P := by
  refine Ev.intro (M := mi_X5_learnPart) rfl (Nat.le_of_ble_eq_true rfl) ?_
  unfold r_X5_learnPart_d1 at hr
  refine Wp.stepsG 4 (fun cal X P' hk hX hP => ?_)
  show kcall cal ix_X5_signAt [.ref 40, .int (S.1 40 7)] (st S hs) [] 0 0 (0, 0) (fun v σ' c' m' => X (8, [some (.ref 40), some (.int 1), none, none, none, none], v.toList ++ [], σ', c', m'))
  obtain ⟨q1, hq1, hr⟩ := bd_some hr
  refine kcall0 rfl (hk _ _ _ _ _ _ (e_X5_signAt_40 (d + 10) S hs (S.1 40 7) q1 hq1 _ ?_))
  show X (8, [some (.ref 40), some (.int 1), none, none, none, none], [.int q1], st S hs, 0, 0)
  refine hX _ ?_
  clear hP hX hk P' X cal
  refine Wp.stepsG 4 (fun cal X P' hk hX hP => ?_)
  show (q1 = 33 → X (21, [some (.ref 40), some (.int 1), some (.int q1), none, none, none], [], st S hs, 0, 0)) ∧ (¬ q1 = 33 → X (15, [some (.ref 40), some (.int 1), some (.int q1), none, none, none], [], st S hs, 0, 0))
  refine ⟨fun hc => hX _ ?_, fun hc => hX _ ?_⟩
  · clear hP hX hk P' X cal
    rw [if_pos hc] at hr
    refine Wp.stepsG 3 (fun cal X P' hk hX hP => ?_)
    show ((1 : Int32) < 4 → X (28, [some (.ref 40), some (.int 1), some (.int q1), none, none, none], [], st S hs, 0, 0)) ∧ (¬ (1 : Int32) < 4 → X (26, [some (.ref 40), some (.int 1), some (.int q1), none, none, none], [], st S hs, 0, 0))
    refine ⟨fun _ => hX _ ?_, fun hc => absurd hc (by decide)⟩
    clear hP hX hk P' X cal
    refine Wp.stepsG 9 (fun cal X P' hk hX hP => ?_)
    show (¬ q1 = 33 → X (72, [some (.ref 40), some (.int 1), some (.int q1), none, none, none], [], st (sI S 40 7 ((S.1 40 7) + 1)) hs, 0, 0)) ∧ (q1 = 33 → X (44, [some (.ref 40), some (.int 1), some (.int q1), none, none, none], [], st (sI S 40 7 ((S.1 40 7) + 1)) hs, 0, 0))
    refine ⟨fun hc => hX _ ?_, fun hc => hX _ ?_⟩
    · clear hP hX hk P' X cal
      rw [if_neg hc] at hr
      refine Wp.stepsG 5 (fun cal X P' hk hX hP => ?_)
      show kcall cal ix_X5_learnEither [.ref 40, .int 2] (st (sI S 40 7 ((S.1 40 7) + 1)) hs) [] 0 0 (0, 0) (fun v σ' c' m' => X (79, [some (.ref 40), some (.int 1), some (.int q1), none, none, none], v.toList ++ [], σ', c', m'))
      obtain ⟨q2, hq2, hr⟩ := bd_some hr
      refine kcall0 rfl (hk _ _ _ _ _ _ (e_X5_learnEither_d2_40 (d + 0) (sI S 40 7 ((S.1 40 7) + 1)) hs q2 hq2 _ ?_))
      show X (79, [some (.ref 40), some (.int 1), some (.int q1), none, none, none], [.int q2.1], st q2.2 hs, 0, 0)
      refine hX _ ?_
      clear hP hX hk P' X cal
      refine Wp.stepsG 1 (fun cal X P' hk hX hP => ?_)
      show (q2.1 = 0 → X (95, [some (.ref 40), some (.int 1), some (.int q1), none, none, none], [], st q2.2 hs, 0, 0)) ∧ (¬ q2.1 = 0 → X (82, [some (.ref 40), some (.int 1), some (.int q1), none, none, none], [], st q2.2 hs, 0, 0))
      refine ⟨fun hc => hX _ ?_, fun hc => hX _ ?_⟩
      · clear hP hX hk P' X cal
        rw [if_pos hc] at hr
        have hr := Option.some.inj hr
        subst hr
        refine Wp.stepsG 2 (fun cal X P' hk hX hP => ?_)
        exact ⟨Or.inl rfl, hP _ _ h⟩
      · clear hP hX hk P' X cal
        rw [if_neg hc] at hr
        refine Wp.stepsG 3 (fun cal X P' hk hX hP => ?_)
        show kcall cal ix_X5_goBy [.ref 40, .int 41] (st q2.2 hs) [] 0 0 (0, 0) (fun v σ' c' m' => X (88, [some (.ref 40), some (.int 1), some (.int q1), none, none, none], v.toList ++ [], σ', c', m'))
        obtain ⟨q3, hq3, hr⟩ := bd_some hr
        refine kcall0 rfl (hk _ _ _ _ _ _ (e_X5_goBy_40 (d + 9) q2.2 hs 41 q3 hq3 _ ?_))
        show X (88, [some (.ref 40), some (.int 1), some (.int q1), none, none, none], [.int q3.1], st q3.2 hs, 0, 0)
        refine hX _ ?_
        clear hP hX hk P' X cal
        refine Wp.stepsG 1 (fun cal X P' hk hX hP => ?_)
        show (q3.1 = 0 → X (95, [some (.ref 40), some (.int 1), some (.int q1), none, none, none], [], st q3.2 hs, 0, 0)) ∧ (¬ q3.1 = 0 → X (91, [some (.ref 40), some (.int 1), some (.int q1), none, none, none], [], st q3.2 hs, 0, 0))
        refine ⟨fun hc => hX _ ?_, fun hc => hX _ ?_⟩
        · clear hP hX hk P' X cal
          rw [if_pos hc] at hr
          have hr := Option.some.inj hr
          subst hr
          refine Wp.stepsG 2 (fun cal X P' hk hX hP => ?_)
          exact ⟨Or.inl rfl, hP _ _ h⟩
        · clear hP hX hk P' X cal
          rw [if_neg hc] at hr
          have hr := Option.some.inj hr
          subst hr
          refine Wp.stepsG 3 (fun cal X P' hk hX hP => ?_)
          exact ⟨Or.inr rfl, hP _ _ h⟩
    · clear hP hX hk P' X cal
      rw [if_pos hc] at hr
      refine Wp.stepsG 5 (fun cal X P' hk hX hP => ?_)
      show kcall cal ix_X5_learnPart [.ref 40, .int 2] (st (sI S 40 7 ((S.1 40 7) + 1)) hs) [] 0 0 (0, 0) (fun v σ' c' m' => X (51, [some (.ref 40), some (.int 1), some (.int q1), none, none, none], v.toList ++ [], σ', c', m'))
      obtain ⟨q4, hq4, hr⟩ := bd_some hr
      refine kcall0 rfl (hk _ _ _ _ _ _ (e_X5_learnPart_d2_40 (d + 2) (sI S 40 7 ((S.1 40 7) + 1)) hs q4 hq4 _ ?_))
      show X (51, [some (.ref 40), some (.int 1), some (.int q1), none, none, none], [.int q4.1], st q4.2 hs, 0, 0)
      refine hX _ ?_
      clear hP hX hk P' X cal
      refine Wp.stepsG 1 (fun cal X P' hk hX hP => ?_)
      show (q4.1 = 0 → X (68, [some (.ref 40), some (.int 1), some (.int q1), none, none, none], [], st q4.2 hs, 0, 0)) ∧ (¬ q4.1 = 0 → X (54, [some (.ref 40), some (.int 1), some (.int q1), none, none, none], [], st q4.2 hs, 0, 0))
      refine ⟨fun hc => hX _ ?_, fun hc => hX _ ?_⟩
      · clear hP hX hk P' X cal
        rw [if_pos hc] at hr
        have hr := Option.some.inj hr
        subst hr
        refine Wp.stepsG 3 (fun cal X P' hk hX hP => ?_)
        exact ⟨Or.inl rfl, hP _ _ h⟩
      · clear hP hX hk P' X cal
        rw [if_neg hc] at hr
        refine Wp.stepsG 4 (fun cal X P' hk hX hP => ?_)
        show kcall cal ix_X5_add [.ref 40, .int 18, .int 0] (st q4.2 hs) [] 0 0 (0, 0) (fun v σ' c' m' => X (61, [some (.ref 40), some (.int 1), some (.int q1), none, none, none], v.toList ++ [], σ', c', m'))
        obtain ⟨q5, hq5, hr⟩ := bd_some hr
        refine kcall0 rfl (hk _ _ _ _ _ _ (e_X5_add_40 (d + 10) q4.2 hs 18 0 q5 hq5 _ ?_))
        show X (61, [some (.ref 40), some (.int 1), some (.int q1), none, none, none], [.int q5.1], st q5.2 hs, 0, 0)
        refine hX _ ?_
        clear hP hX hk P' X cal
        refine Wp.stepsG 1 (fun cal X P' hk hX hP => ?_)
        show (q5.1 = 0 → X (68, [some (.ref 40), some (.int 1), some (.int q1), none, none, none], [], st q5.2 hs, 0, 0)) ∧ (¬ q5.1 = 0 → X (64, [some (.ref 40), some (.int 1), some (.int q1), none, none, none], [], st q5.2 hs, 0, 0))
        refine ⟨fun hc => hX _ ?_, fun hc => hX _ ?_⟩
        · clear hP hX hk P' X cal
          rw [if_pos hc] at hr
          have hr := Option.some.inj hr
          subst hr
          refine Wp.stepsG 3 (fun cal X P' hk hX hP => ?_)
          exact ⟨Or.inl rfl, hP _ _ h⟩
        · clear hP hX hk P' X cal
          rw [if_neg hc] at hr
          have hr := Option.some.inj hr
          subst hr
          refine Wp.stepsG 3 (fun cal X P' hk hX hP => ?_)
          exact ⟨Or.inr rfl, hP _ _ h⟩
  · clear hP hX hk P' X cal
    rw [if_neg hc] at hr
    refine Wp.stepsG 3 (fun cal X P' hk hX hP => ?_)
    show (¬ q1 = 40 → X (97, [some (.ref 40), some (.int 1), some (.int q1), none, none, none], [], st S hs, 0, 0)) ∧ (q1 = 40 → X (21, [some (.ref 40), some (.int 1), some (.int q1), none, none, none], [], st S hs, 0, 0))
    refine ⟨fun hc => hX _ ?_, fun hc => hX _ ?_⟩
    · clear hP hX hk P' X cal
      rw [if_neg hc] at hr
      refine Wp.stepsG 3 (fun cal X P' hk hX hP => ?_)
      show kcall cal ix_X5_goByOneOf [.ref 40, .ref 1] (st S hs) [] 0 0 (0, 0) (fun v σ' c' m' => X (103, [some (.ref 40), some (.int 1), some (.int q1), none, none, none], v.toList ++ [], σ', c', m'))
      obtain ⟨q6, hq6, hr⟩ := bd_some hr
      refine kcall0 rfl (hk _ _ _ _ _ _ (e_X5_goByOneOf_1_40 (d + 9) S hs q6 hq6 _ ?_))
      show X (103, [some (.ref 40), some (.int 1), some (.int q1), none, none, none], [.int q6.1], st q6.2 hs, 0, 0)
      refine hX _ ?_
      clear hP hX hk P' X cal
      refine Wp.stepsG 3 (fun cal X P' hk hX hP => ?_)
      show (0 ≤ q6.1 → X (112, [some (.ref 40), some (.int 1), some (.int q1), some (.int q6.1), none, none], [], st q6.2 hs, 0, 0)) ∧ (¬ 0 ≤ q6.1 → X (108, [some (.ref 40), some (.int 1), some (.int q1), some (.int q6.1), none, none], [], st q6.2 hs, 0, 0))
      refine ⟨fun hc => hX _ ?_, fun hc => hX _ ?_⟩
      · clear hP hX hk P' X cal
        rw [if_pos hc] at hr
        refine Wp.stepsG 3 (fun cal X P' hk hX hP => ?_)
        show kcall cal ix_X5_goByOneOf [.ref 40, .ref 2] (st q6.2 hs) [] 0 0 (0, 0) (fun v σ' c' m' => X (118, [some (.ref 40), some (.int 1), some (.int q1), some (.int q6.1), none, none], v.toList ++ [], σ', c', m'))
        obtain ⟨q7, hq7, hr⟩ := bd_some hr
        refine kcall0 rfl (hk _ _ _ _ _ _ (e_X5_goByOneOf_2_40 (d + 9) q6.2 hs q7 hq7 _ ?_))
        show X (118, [some (.ref 40), some (.int 1), some (.int q1), some (.int q6.1), none, none], [.int q7.1], st q7.2 hs, 0, 0)
        refine hX _ ?_
        clear hP hX hk P' X cal
        refine Wp.stepsG 3 (fun cal X P' hk hX hP => ?_)
        show (0 ≤ q7.1 → X (129, [some (.ref 40), some (.int 1), some (.int q1), some (.int q6.1), some (.int q7.1), none], [], st q7.2 hs, 0, 0)) ∧ (¬ 0 ≤ q7.1 → X (125, [some (.ref 40), some (.int 1), some (.int q1), some (.int q6.1), some (.int q7.1), none], [], st q7.2 hs, 0, 0))
        refine ⟨fun hc => hX _ ?_, fun hc => hX _ ?_⟩
        · clear hP hX hk P' X cal
          rw [if_pos hc] at hr
          refine Wp.stepsG 2 (fun cal X P' hk hX hP => ?_)
          show kcall cal ix_X5_goByNumber [.ref 40] (st q7.2 hs) [] 0 0 (0, 0) (fun v σ' c' m' => X (133, [some (.ref 40), some (.int 1), some (.int q1), some (.int q6.1), some (.int q7.1), none], v.toList ++ [], σ', c', m'))
          obtain ⟨q8, hq8, hr⟩ := bd_some hr
          refine kcall0 rfl (hk _ _ _ _ _ _ (e_X5_goByNumber_40 (d + 9) q7.2 hs q8 hq8 _ ?_))
          show X (133, [some (.ref 40), some (.int 1), some (.int q1), some (.int q6.1), some (.int q7.1), none], [.int q8.1], st q8.2 hs, 0, 0)
          refine hX _ ?_
          clear hP hX hk P' X cal
          refine Wp.stepsG 3 (fun cal X P' hk hX hP => ?_)
          show (q8.1 < 0 → X (159, [some (.ref 40), some (.int 1), some (.int q1), some (.int q6.1), some (.int q7.1), some (.int q8.1)], [], st q8.2 hs, 0, 0)) ∧ (¬ q8.1 < 0 → X (140, [some (.ref 40), some (.int 1), some (.int q1), some (.int q6.1), some (.int q7.1), some (.int q8.1)], [], st q8.2 hs, 0, 0))
          refine ⟨fun hc => hX _ ?_, fun hc => hX _ ?_⟩
          · clear hP hX hk P' X cal
            rw [if_pos hc] at hr
            have hr := Option.some.inj hr
            subst hr
            refine Wp.stepsG 2 (fun cal X P' hk hX hP => ?_)
            exact ⟨Or.inl rfl, hP _ _ h⟩
          · clear hP hX hk P' X cal
            rw [if_neg hc] at hr
            refine Wp.stepsG 8 (fun cal X P' hk hX hP => ?_)
            show kcall cal ix_X5_add [.ref 40, .int (((3 : Int32) * q6.1) + q7.1), .int q8.1] (st q8.2 hs) [] 0 0 (0, 0) (fun v σ' c' m' => X (152, [some (.ref 40), some (.int 1), some (.int q1), some (.int q6.1), some (.int q7.1), some (.int q8.1)], v.toList ++ [], σ', c', m'))
            obtain ⟨q9, hq9, hr⟩ := bd_some hr
            refine kcall0 rfl (hk _ _ _ _ _ _ (e_X5_add_40 (d + 10) q8.2 hs (((3 : Int32) * q6.1) + q7.1) q8.1 q9 hq9 _ ?_))
            show X (152, [some (.ref 40), some (.int 1), some (.int q1), some (.int q6.1), some (.int q7.1), some (.int q8.1)], [.int q9.1], st q9.2 hs, 0, 0)
            refine hX _ ?_
            clear hP hX hk P' X cal
            refine Wp.stepsG 1 (fun cal X P' hk hX hP => ?_)
            show (q9.1 = 0 → X (159, [some (.ref 40), some (.int 1), some (.int q1), some (.int q6.1), some (.int q7.1), some (.int q8.1)], [], st q9.2 hs, 0, 0)) ∧ (¬ q9.1 = 0 → X (155, [some (.ref 40), some (.int 1), some (.int q1), some (.int q6.1), some (.int q7.1), some (.int q8.1)], [], st q9.2 hs, 0, 0))
            refine ⟨fun hc => hX _ ?_, fun hc => hX _ ?_⟩
            · clear hP hX hk P' X cal
              rw [if_pos hc] at hr
              have hr := Option.some.inj hr
              subst hr
              refine Wp.stepsG 2 (fun cal X P' hk hX hP => ?_)
              exact ⟨Or.inl rfl, hP _ _ h⟩
            · clear hP hX hk P' X cal
              rw [if_neg hc] at hr
              have hr := Option.some.inj hr
              subst hr
              refine Wp.stepsG 3 (fun cal X P' hk hX hP => ?_)
              exact ⟨Or.inr rfl, hP _ _ h⟩
        · clear hP hX hk P' X cal
          rw [if_neg hc] at hr
          refine Wp.stepsG 5 (fun cal X P' hk hX hP => ?_)
          show (((-1) : Int32) < 0 → X (159, [some (.ref 40), some (.int 1), some (.int q1), some (.int q6.1), some (.int q7.1), some (.int (-1))], [], st q7.2 hs, 0, 0)) ∧ (¬ ((-1) : Int32) < 0 → X (140, [some (.ref 40), some (.int 1), some (.int q1), some (.int q6.1), some (.int q7.1), some (.int (-1))], [], st q7.2 hs, 0, 0))
          refine ⟨fun _ => hX _ ?_, fun hc => absurd hc (by decide)⟩
          clear hP hX hk P' X cal
          have hr := Option.some.inj hr
          subst hr
          refine Wp.stepsG 2 (fun cal X P' hk hX hP => ?_)
          exact ⟨Or.inl rfl, hP _ _ h⟩
      · clear hP hX hk P' X cal
        rw [if_neg hc] at hr
        refine Wp.stepsG 5 (fun cal X P' hk hX hP => ?_)
        show (0 ≤ ((-1) : Int32) → X (129, [some (.ref 40), some (.int 1), some (.int q1), some (.int q6.1), some (.int (-1)), none], [], st q6.2 hs, 0, 0)) ∧ (¬ 0 ≤ ((-1) : Int32) → X (125, [some (.ref 40), some (.int 1), some (.int q1), some (.int q6.1), some (.int (-1)), none], [], st q6.2 hs, 0, 0))
        refine ⟨fun hc => absurd hc (by decide), fun _ => hX _ ?_⟩
        clear hP hX hk P' X cal
        refine Wp.stepsG 5 (fun cal X P' hk hX hP => ?_)
        show (((-1) : Int32) < 0 → X (159, [some (.ref 40), some (.int 1), some (.int q1), some (.int q6.1), some (.int (-1)), some (.int (-1))], [], st q6.2 hs, 0, 0)) ∧ (¬ ((-1) : Int32) < 0 → X (140, [some (.ref 40), some (.int 1), some (.int q1), some (.int q6.1), some (.int (-1)), some (.int (-1))], [], st q6.2 hs, 0, 0))
        refine ⟨fun _ => hX _ ?_, fun hc => absurd hc (by decide)⟩
        clear hP hX hk P' X cal
        have hr := Option.some.inj hr
        subst hr
        refine Wp.stepsG 2 (fun cal X P' hk hX hP => ?_)
        exact ⟨Or.inl rfl, hP _ _ h⟩
    · clear hP hX hk P' X cal
      rw [if_pos hc] at hr
      refine Wp.stepsG 3 (fun cal X P' hk hX hP => ?_)
      show ((1 : Int32) < 4 → X (28, [some (.ref 40), some (.int 1), some (.int q1), none, none, none], [], st S hs, 0, 0)) ∧ (¬ (1 : Int32) < 4 → X (26, [some (.ref 40), some (.int 1), some (.int q1), none, none, none], [], st S hs, 0, 0))
      refine ⟨fun _ => hX _ ?_, fun hc => absurd hc (by decide)⟩
      clear hP hX hk P' X cal
      refine Wp.stepsG 9 (fun cal X P' hk hX hP => ?_)
      show (¬ q1 = 33 → X (72, [some (.ref 40), some (.int 1), some (.int q1), none, none, none], [], st (sI S 40 7 ((S.1 40 7) + 1)) hs, 0, 0)) ∧ (q1 = 33 → X (44, [some (.ref 40), some (.int 1), some (.int q1), none, none, none], [], st (sI S 40 7 ((S.1 40 7) + 1)) hs, 0, 0))
      refine ⟨fun hc => hX _ ?_, fun hc => hX _ ?_⟩
      · clear hP hX hk P' X cal
        rw [if_neg hc] at hr
        refine Wp.stepsG 5 (fun cal X P' hk hX hP => ?_)
        show kcall cal ix_X5_learnEither [.ref 40, .int 2] (st (sI S 40 7 ((S.1 40 7) + 1)) hs) [] 0 0 (0, 0) (fun v σ' c' m' => X (79, [some (.ref 40), some (.int 1), some (.int q1), none, none, none], v.toList ++ [], σ', c', m'))
        obtain ⟨q10, hq10, hr⟩ := bd_some hr
        refine kcall0 rfl (hk _ _ _ _ _ _ (e_X5_learnEither_d2_40 (d + 0) (sI S 40 7 ((S.1 40 7) + 1)) hs q10 hq10 _ ?_))
        show X (79, [some (.ref 40), some (.int 1), some (.int q1), none, none, none], [.int q10.1], st q10.2 hs, 0, 0)
        refine hX _ ?_
        clear hP hX hk P' X cal
        refine Wp.stepsG 1 (fun cal X P' hk hX hP => ?_)
        show (q10.1 = 0 → X (95, [some (.ref 40), some (.int 1), some (.int q1), none, none, none], [], st q10.2 hs, 0, 0)) ∧ (¬ q10.1 = 0 → X (82, [some (.ref 40), some (.int 1), some (.int q1), none, none, none], [], st q10.2 hs, 0, 0))
        refine ⟨fun hc => hX _ ?_, fun hc => hX _ ?_⟩
        · clear hP hX hk P' X cal
          rw [if_pos hc] at hr
          have hr := Option.some.inj hr
          subst hr
          refine Wp.stepsG 2 (fun cal X P' hk hX hP => ?_)
          exact ⟨Or.inl rfl, hP _ _ h⟩
        · clear hP hX hk P' X cal
          rw [if_neg hc] at hr
          refine Wp.stepsG 3 (fun cal X P' hk hX hP => ?_)
          show kcall cal ix_X5_goBy [.ref 40, .int 41] (st q10.2 hs) [] 0 0 (0, 0) (fun v σ' c' m' => X (88, [some (.ref 40), some (.int 1), some (.int q1), none, none, none], v.toList ++ [], σ', c', m'))
          obtain ⟨q11, hq11, hr⟩ := bd_some hr
          refine kcall0 rfl (hk _ _ _ _ _ _ (e_X5_goBy_40 (d + 9) q10.2 hs 41 q11 hq11 _ ?_))
          show X (88, [some (.ref 40), some (.int 1), some (.int q1), none, none, none], [.int q11.1], st q11.2 hs, 0, 0)
          refine hX _ ?_
          clear hP hX hk P' X cal
          refine Wp.stepsG 1 (fun cal X P' hk hX hP => ?_)
          show (q11.1 = 0 → X (95, [some (.ref 40), some (.int 1), some (.int q1), none, none, none], [], st q11.2 hs, 0, 0)) ∧ (¬ q11.1 = 0 → X (91, [some (.ref 40), some (.int 1), some (.int q1), none, none, none], [], st q11.2 hs, 0, 0))
          refine ⟨fun hc => hX _ ?_, fun hc => hX _ ?_⟩
          · clear hP hX hk P' X cal
            rw [if_pos hc] at hr
            have hr := Option.some.inj hr
            subst hr
            refine Wp.stepsG 2 (fun cal X P' hk hX hP => ?_)
            exact ⟨Or.inl rfl, hP _ _ h⟩
          · clear hP hX hk P' X cal
            rw [if_neg hc] at hr
            have hr := Option.some.inj hr
            subst hr
            refine Wp.stepsG 3 (fun cal X P' hk hX hP => ?_)
            exact ⟨Or.inr rfl, hP _ _ h⟩
      · clear hP hX hk P' X cal
        rw [if_pos hc] at hr
        refine Wp.stepsG 5 (fun cal X P' hk hX hP => ?_)
        show kcall cal ix_X5_learnPart [.ref 40, .int 2] (st (sI S 40 7 ((S.1 40 7) + 1)) hs) [] 0 0 (0, 0) (fun v σ' c' m' => X (51, [some (.ref 40), some (.int 1), some (.int q1), none, none, none], v.toList ++ [], σ', c', m'))
        obtain ⟨q12, hq12, hr⟩ := bd_some hr
        refine kcall0 rfl (hk _ _ _ _ _ _ (e_X5_learnPart_d2_40 (d + 2) (sI S 40 7 ((S.1 40 7) + 1)) hs q12 hq12 _ ?_))
        show X (51, [some (.ref 40), some (.int 1), some (.int q1), none, none, none], [.int q12.1], st q12.2 hs, 0, 0)
        refine hX _ ?_
        clear hP hX hk P' X cal
        refine Wp.stepsG 1 (fun cal X P' hk hX hP => ?_)
        show (q12.1 = 0 → X (68, [some (.ref 40), some (.int 1), some (.int q1), none, none, none], [], st q12.2 hs, 0, 0)) ∧ (¬ q12.1 = 0 → X (54, [some (.ref 40), some (.int 1), some (.int q1), none, none, none], [], st q12.2 hs, 0, 0))
        refine ⟨fun hc => hX _ ?_, fun hc => hX _ ?_⟩
        · clear hP hX hk P' X cal
          rw [if_pos hc] at hr
          have hr := Option.some.inj hr
          subst hr
          refine Wp.stepsG 3 (fun cal X P' hk hX hP => ?_)
          exact ⟨Or.inl rfl, hP _ _ h⟩
        · clear hP hX hk P' X cal
          rw [if_neg hc] at hr
          refine Wp.stepsG 4 (fun cal X P' hk hX hP => ?_)
          show kcall cal ix_X5_add [.ref 40, .int 18, .int 0] (st q12.2 hs) [] 0 0 (0, 0) (fun v σ' c' m' => X (61, [some (.ref 40), some (.int 1), some (.int q1), none, none, none], v.toList ++ [], σ', c', m'))
          obtain ⟨q13, hq13, hr⟩ := bd_some hr
          refine kcall0 rfl (hk _ _ _ _ _ _ (e_X5_add_40 (d + 10) q12.2 hs 18 0 q13 hq13 _ ?_))
          show X (61, [some (.ref 40), some (.int 1), some (.int q1), none, none, none], [.int q13.1], st q13.2 hs, 0, 0)
          refine hX _ ?_
          clear hP hX hk P' X cal
          refine Wp.stepsG 1 (fun cal X P' hk hX hP => ?_)
          show (q13.1 = 0 → X (68, [some (.ref 40), some (.int 1), some (.int q1), none, none, none], [], st q13.2 hs, 0, 0)) ∧ (¬ q13.1 = 0 → X (64, [some (.ref 40), some (.int 1), some (.int q1), none, none, none], [], st q13.2 hs, 0, 0))
          refine ⟨fun hc => hX _ ?_, fun hc => hX _ ?_⟩
          · clear hP hX hk P' X cal
            rw [if_pos hc] at hr
            have hr := Option.some.inj hr
            subst hr
            refine Wp.stepsG 3 (fun cal X P' hk hX hP => ?_)
            exact ⟨Or.inl rfl, hP _ _ h⟩
          · clear hP hX hk P' X cal
            rw [if_neg hc] at hr
            have hr := Option.some.inj hr
            subst hr
            refine Wp.stepsG 3 (fun cal X P' hk hX hP => ?_)
            exact ⟨Or.inr rfl, hP _ _ h⟩
def lp_X5_learnBoth_d1_8 (o : Nat) : Nat → Int32 → Int32 → St → Option (Int32 × St)
  | 0, _, _, _ => none
  | n + 1, v2, v3, S =>
    if 100 ≤ v3 then
      some (v2, S)
    else
      if v2 = 0 then
        some (v2, S)
      else
        (r_X5_goBy S o 38).bind fun q2 =>
        if q2.1 = 0 then
          some (v2, q2.2)
        else
          (r_X5_learnPart_d1 q2.2 o).bind fun q3 =>
          if q3.1 = 0 then
            lp_X5_learnBoth_d1_8 o n 0 (v3 + 1) q3.2
          else
            (r_X5_add q3.2 o 19 0).bind fun q4 =>
            if q4.1 = 0 then
              lp_X5_learnBoth_d1_8 o n 0 (v3 + 1) q4.2
            else
              lp_X5_learnBoth_d1_8 o n 1 (v3 + 1) q4.2
def r_X5_learnBoth_d1 (S : St) (o : Nat) : Option (Int32 × St) :=
  (r_X5_learnPart_d1 S o).bind fun q1 =>
  (lp_X5_learnBoth_d1_8 o 4000 q1.1 0 q1.2).bind fun q5 =>
    gd (q5.1 = 0 ∨ q5.1 = 1) (some (q5.1, q5.2))
set_option maxRecDepth 20000 in
set_option maxHeartbeats 4000000 in
theorem e_lp_X5_learnBoth_d1_8_40 (d : Nat) (hs : List Hr) (P : Option Value → Hp → Prop) : ∀ (n : Nat) (v2 : Int32) (v3 : Int32) (S : St) (q : Int32 × St), lp_X5_learnBoth_d1_8 40 n v2 v3 S = some q → (WM mi_X5_learnBoth (d + 12) P 57 [some (.ref 40), some (.int 1), some (.int q.1), none] [] (st q.2 hs)) → WM mi_X5_learnBoth (d + 12) P 8 [some (.ref 40), some (.int 1), some (.int v2), some (.int v3)] [] (st S hs) := by
  intro n
  induction n with
  | zero =>
    intro v2 v3 S q hl
    cases hl
  | succ n ih =>
    intro v2 v3 S q hl ct
    rw [lp_X5_learnBoth_d1_8] at hl
    refine Wp.stepsG 3 (fun cal X P' hk hX hP => ?_)
    show (100 ≤ v3 → X (57, [some (.ref 40), some (.int 1), some (.int v2), some (.int v3)], [], st S hs, 0, 0)) ∧ (¬ 100 ≤ v3 → X (14, [some (.ref 40), some (.int 1), some (.int v2), some (.int v3)], [], st S hs, 0, 0))
    refine ⟨fun hc => hX _ ?_, fun hc => hX _ ?_⟩
    · clear hP hX hk P' X cal
      rw [if_pos hc] at hl
      have hl := Option.some.inj hl
      subst hl
      exact Wp.weak (leL.k (leL.k (leL.k (leL.n leL.z)))) (ct)
    · clear hP hX hk P' X cal
      rw [if_neg hc] at hl
      refine Wp.stepsG 2 (fun cal X P' hk hX hP => ?_)
      show (v2 = 0 → X (57, [some (.ref 40), some (.int 1), some (.int v2), some (.int v3)], [], st S hs, 0, 0)) ∧ (¬ v2 = 0 → X (18, [some (.ref 40), some (.int 1), some (.int v2), some (.int v3)], [], st S hs, 0, 0))
      refine ⟨fun hc => hX _ ?_, fun hc => hX _ ?_⟩
      · clear hP hX hk P' X cal
        rw [if_pos hc] at hl
        have hl := Option.some.inj hl
        subst hl
        exact Wp.weak (leL.k (leL.k (leL.k (leL.n leL.z)))) (ct)
      · clear hP hX hk P' X cal
        rw [if_neg hc] at hl
        refine Wp.stepsG 3 (fun cal X P' hk hX hP => ?_)
        show kcall cal ix_X5_goBy [.ref 40, .int 38] (st S hs) [] 0 0 (0, 0) (fun v σ' c' m' => X (24, [some (.ref 40), some (.int 1), some (.int v2), some (.int v3)], v.toList ++ [], σ', c', m'))
        obtain ⟨q2, hq2, hl⟩ := bd_some hl
        refine kcall0 rfl (hk _ _ _ _ _ _ (e_X5_goBy_40 (d + 10) S hs 38 q2 hq2 _ ?_))
        show X (24, [some (.ref 40), some (.int 1), some (.int v2), some (.int v3)], [.int q2.1], st q2.2 hs, 0, 0)
        refine hX _ ?_
        clear hP hX hk P' X cal
        refine Wp.stepsG 1 (fun cal X P' hk hX hP => ?_)
        show (q2.1 = 0 → X (57, [some (.ref 40), some (.int 1), some (.int v2), some (.int v3)], [], st q2.2 hs, 0, 0)) ∧ (¬ q2.1 = 0 → X (27, [some (.ref 40), some (.int 1), some (.int v2), some (.int v3)], [], st q2.2 hs, 0, 0))
        refine ⟨fun hc => hX _ ?_, fun hc => hX _ ?_⟩
        · clear hP hX hk P' X cal
          rw [if_pos hc] at hl
          have hl := Option.some.inj hl
          subst hl
          exact Wp.weak (leL.k (leL.k (leL.k (leL.n leL.z)))) (ct)
        · clear hP hX hk P' X cal
          rw [if_neg hc] at hl
          refine Wp.stepsG 3 (fun cal X P' hk hX hP => ?_)
          show kcall cal ix_X5_learnPart [.ref 40, .int 1] (st q2.2 hs) [] 0 0 (0, 0) (fun v σ' c' m' => X (32, [some (.ref 40), some (.int 1), some (.int v2), some (.int v3)], v.toList ++ [], σ', c', m'))
          obtain ⟨q3, hq3, hl⟩ := bd_some hl
          refine kcall0 rfl (hk _ _ _ _ _ _ (e_X5_learnPart_d1_40 (d + 0) q2.2 hs q3 hq3 _ ?_))
          show X (32, [some (.ref 40), some (.int 1), some (.int v2), some (.int v3)], [.int q3.1], st q3.2 hs, 0, 0)
          refine hX _ ?_
          clear hP hX hk P' X cal
          refine Wp.stepsG 1 (fun cal X P' hk hX hP => ?_)
          show (q3.1 = 0 → X (49, [some (.ref 40), some (.int 1), some (.int v2), some (.int v3)], [], st q3.2 hs, 0, 0)) ∧ (¬ q3.1 = 0 → X (35, [some (.ref 40), some (.int 1), some (.int v2), some (.int v3)], [], st q3.2 hs, 0, 0))
          refine ⟨fun hc => hX _ ?_, fun hc => hX _ ?_⟩
          · clear hP hX hk P' X cal
            rw [if_pos hc] at hl
            refine Wp.stepsG 4 (fun cal X P' hk hX hP => ?_)
            show X (8, [some (.ref 40), some (.int 1), some (.int 0), some (.int (v3 + 1))], [], st q3.2 hs, 0, 0)
            refine hX _ ?_
            exact (ih 0 (v3 + 1) q3.2 q hl ct)
          · clear hP hX hk P' X cal
            rw [if_neg hc] at hl
            refine Wp.stepsG 4 (fun cal X P' hk hX hP => ?_)
            show kcall cal ix_X5_add [.ref 40, .int 19, .int 0] (st q3.2 hs) [] 0 0 (0, 0) (fun v σ' c' m' => X (42, [some (.ref 40), some (.int 1), some (.int v2), some (.int v3)], v.toList ++ [], σ', c', m'))
            obtain ⟨q4, hq4, hl⟩ := bd_some hl
            refine kcall0 rfl (hk _ _ _ _ _ _ (e_X5_add_40 (d + 11) q3.2 hs 19 0 q4 hq4 _ ?_))
            show X (42, [some (.ref 40), some (.int 1), some (.int v2), some (.int v3)], [.int q4.1], st q4.2 hs, 0, 0)
            refine hX _ ?_
            clear hP hX hk P' X cal
            refine Wp.stepsG 1 (fun cal X P' hk hX hP => ?_)
            show (q4.1 = 0 → X (49, [some (.ref 40), some (.int 1), some (.int v2), some (.int v3)], [], st q4.2 hs, 0, 0)) ∧ (¬ q4.1 = 0 → X (45, [some (.ref 40), some (.int 1), some (.int v2), some (.int v3)], [], st q4.2 hs, 0, 0))
            refine ⟨fun hc => hX _ ?_, fun hc => hX _ ?_⟩
            · clear hP hX hk P' X cal
              rw [if_pos hc] at hl
              refine Wp.stepsG 4 (fun cal X P' hk hX hP => ?_)
              show X (8, [some (.ref 40), some (.int 1), some (.int 0), some (.int (v3 + 1))], [], st q4.2 hs, 0, 0)
              refine hX _ ?_
              exact (ih 0 (v3 + 1) q4.2 q hl ct)
            · clear hP hX hk P' X cal
              rw [if_neg hc] at hl
              refine Wp.stepsG 5 (fun cal X P' hk hX hP => ?_)
              show X (8, [some (.ref 40), some (.int 1), some (.int 1), some (.int (v3 + 1))], [], st q4.2 hs, 0, 0)
              refine hX _ ?_
              exact (ih 1 (v3 + 1) q4.2 q hl ct)
set_option maxRecDepth 20000 in
set_option maxHeartbeats 4000000 in
theorem e_X5_learnBoth_d1_40 (d : Nat) (S : St) (hs : List Hr) (v : Int32 × St) (hr : r_X5_learnBoth_d1 S 40 = some v) (P : Option Value → Hp → Prop) (h : P (some (.int v.1)) (st v.2 hs)) : Ev (d + 13) ix_X5_learnBoth 0 0 [.ref 40, .int 1] (st S hs) P := by
  refine Ev.intro (M := mi_X5_learnBoth) rfl (Nat.le_of_ble_eq_true rfl) ?_
  unfold r_X5_learnBoth_d1 at hr
  refine Wp.stepsG 3 (fun cal X P' hk hX hP => ?_)
  show kcall cal ix_X5_learnPart [.ref 40, .int 1] (st S hs) [] 0 0 (0, 0) (fun v σ' c' m' => X (5, [some (.ref 40), some (.int 1), none, none], v.toList ++ [], σ', c', m'))
  obtain ⟨q1, hq1, hr⟩ := bd_some hr
  refine kcall0 rfl (hk _ _ _ _ _ _ (e_X5_learnPart_d1_40 (d + 0) S hs q1 hq1 _ ?_))
  show X (5, [some (.ref 40), some (.int 1), none, none], [.int q1.1], st q1.2 hs, 0, 0)
  refine hX _ ?_
  clear hP hX hk P' X cal
  refine Wp.stepsG 3 (fun cal X P' hk hX hP => ?_)
  show X (8, [some (.ref 40), some (.int 1), some (.int q1.1), some (.int 0)], [], st q1.2 hs, 0, 0)
  refine hX _ ?_
  clear hP hX hk P' X cal
  obtain ⟨q5, hq5, hr⟩ := bd_some hr
  refine (e_lp_X5_learnBoth_d1_8_40 d hs P _ q1.1 0 q1.2 q5 hq5 ?_)
  obtain ⟨hb, hr⟩ := gd_some hr
  have hr := Option.some.inj hr
  subst hr
  refine Wp.stepsG 2 (fun cal X P' hk hX hP => ?_)
  exact ⟨hb, hP _ _ h⟩
def lp_X5_learnEither_d1_8 (o : Nat) : Nat → Int32 → Int32 → St → Option (Int32 × St)
  | 0, _, _, _ => none
  | n + 1, v2, v3, S =>
    if 100 ≤ v3 then
      some (v2, S)
    else
      if v2 = 0 then
        some (v2, S)
      else
        (r_X5_goBy S o 124).bind fun q2 =>
        if q2.1 = 0 then
          some (v2, q2.2)
        else
          (r_X5_learnBoth_d1 q2.2 o).bind fun q3 =>
          if q3.1 = 0 then
            lp_X5_learnEither_d1_8 o n 0 (v3 + 1) q3.2
          else
            (r_X5_add q3.2 o 20 0).bind fun q4 =>
            if q4.1 = 0 then
              lp_X5_learnEither_d1_8 o n 0 (v3 + 1) q4.2
            else
              lp_X5_learnEither_d1_8 o n 1 (v3 + 1) q4.2
def r_X5_learnEither_d1 (S : St) (o : Nat) : Option (Int32 × St) :=
  (r_X5_learnBoth_d1 S o).bind fun q1 =>
  (lp_X5_learnEither_d1_8 o 4000 q1.1 0 q1.2).bind fun q5 =>
    gd (q5.1 = 0 ∨ q5.1 = 1) (some (q5.1, q5.2))
set_option maxRecDepth 20000 in
set_option maxHeartbeats 4000000 in
theorem e_lp_X5_learnEither_d1_8_40 (d : Nat) (hs : List Hr) (P : Option Value → Hp → Prop) : ∀ (n : Nat) (v2 : Int32) (v3 : Int32) (S : St) (q : Int32 × St), lp_X5_learnEither_d1_8 40 n v2 v3 S = some q → (WM mi_X5_learnEither (d + 13) P 57 [some (.ref 40), some (.int 1), some (.int q.1), none] [] (st q.2 hs)) → WM mi_X5_learnEither (d + 13) P 8 [some (.ref 40), some (.int 1), some (.int v2), some (.int v3)] [] (st S hs) := by
  intro n
  induction n with
  | zero =>
    intro v2 v3 S q hl
    cases hl
  | succ n ih =>
    intro v2 v3 S q hl ct
    rw [lp_X5_learnEither_d1_8] at hl
    refine Wp.stepsG 3 (fun cal X P' hk hX hP => ?_)
    show (100 ≤ v3 → X (57, [some (.ref 40), some (.int 1), some (.int v2), some (.int v3)], [], st S hs, 0, 0)) ∧ (¬ 100 ≤ v3 → X (14, [some (.ref 40), some (.int 1), some (.int v2), some (.int v3)], [], st S hs, 0, 0))
    refine ⟨fun hc => hX _ ?_, fun hc => hX _ ?_⟩
    · clear hP hX hk P' X cal
      rw [if_pos hc] at hl
      have hl := Option.some.inj hl
      subst hl
      exact Wp.weak (leL.k (leL.k (leL.k (leL.n leL.z)))) (ct)
    · clear hP hX hk P' X cal
      rw [if_neg hc] at hl
      refine Wp.stepsG 2 (fun cal X P' hk hX hP => ?_)
      show (v2 = 0 → X (57, [some (.ref 40), some (.int 1), some (.int v2), some (.int v3)], [], st S hs, 0, 0)) ∧ (¬ v2 = 0 → X (18, [some (.ref 40), some (.int 1), some (.int v2), some (.int v3)], [], st S hs, 0, 0))
      refine ⟨fun hc => hX _ ?_, fun hc => hX _ ?_⟩
      · clear hP hX hk P' X cal
        rw [if_pos hc] at hl
        have hl := Option.some.inj hl
        subst hl
        exact Wp.weak (leL.k (leL.k (leL.k (leL.n leL.z)))) (ct)
      · clear hP hX hk P' X cal
        rw [if_neg hc] at hl
        refine Wp.stepsG 3 (fun cal X P' hk hX hP => ?_)
        show kcall cal ix_X5_goBy [.ref 40, .int 124] (st S hs) [] 0 0 (0, 0) (fun v σ' c' m' => X (24, [some (.ref 40), some (.int 1), some (.int v2), some (.int v3)], v.toList ++ [], σ', c', m'))
        obtain ⟨q2, hq2, hl⟩ := bd_some hl
        refine kcall0 rfl (hk _ _ _ _ _ _ (e_X5_goBy_40 (d + 11) S hs 124 q2 hq2 _ ?_))
        show X (24, [some (.ref 40), some (.int 1), some (.int v2), some (.int v3)], [.int q2.1], st q2.2 hs, 0, 0)
        refine hX _ ?_
        clear hP hX hk P' X cal
        refine Wp.stepsG 1 (fun cal X P' hk hX hP => ?_)
        show (q2.1 = 0 → X (57, [some (.ref 40), some (.int 1), some (.int v2), some (.int v3)], [], st q2.2 hs, 0, 0)) ∧ (¬ q2.1 = 0 → X (27, [some (.ref 40), some (.int 1), some (.int v2), some (.int v3)], [], st q2.2 hs, 0, 0))
        refine ⟨fun hc => hX _ ?_, fun hc => hX _ ?_⟩
        · clear hP hX hk P' X cal
          rw [if_pos hc] at hl
          have hl := Option.some.inj hl
          subst hl
          exact Wp.weak (leL.k (leL.k (leL.k (leL.n leL.z)))) (ct)
        · clear hP hX hk P' X cal
          rw [if_neg hc] at hl
          refine Wp.stepsG 3 (fun cal X P' hk hX hP => ?_)
          show kcall cal ix_X5_learnBoth [.ref 40, .int 1] (st q2.2 hs) [] 0 0 (0, 0) (fun v σ' c' m' => X (32, [some (.ref 40), some (.int 1), some (.int v2), some (.int v3)], v.toList ++ [], σ', c', m'))
          obtain ⟨q3, hq3, hl⟩ := bd_some hl
          refine kcall0 rfl (hk _ _ _ _ _ _ (e_X5_learnBoth_d1_40 (d + 0) q2.2 hs q3 hq3 _ ?_))
          show X (32, [some (.ref 40), some (.int 1), some (.int v2), some (.int v3)], [.int q3.1], st q3.2 hs, 0, 0)
          refine hX _ ?_
          clear hP hX hk P' X cal
          refine Wp.stepsG 1 (fun cal X P' hk hX hP => ?_)
          show (q3.1 = 0 → X (49, [some (.ref 40), some (.int 1), some (.int v2), some (.int v3)], [], st q3.2 hs, 0, 0)) ∧ (¬ q3.1 = 0 → X (35, [some (.ref 40), some (.int 1), some (.int v2), some (.int v3)], [], st q3.2 hs, 0, 0))
          refine ⟨fun hc => hX _ ?_, fun hc => hX _ ?_⟩
          · clear hP hX hk P' X cal
            rw [if_pos hc] at hl
            refine Wp.stepsG 4 (fun cal X P' hk hX hP => ?_)
            show X (8, [some (.ref 40), some (.int 1), some (.int 0), some (.int (v3 + 1))], [], st q3.2 hs, 0, 0)
            refine hX _ ?_
            exact (ih 0 (v3 + 1) q3.2 q hl ct)
          · clear hP hX hk P' X cal
            rw [if_neg hc] at hl
            refine Wp.stepsG 4 (fun cal X P' hk hX hP => ?_)
            show kcall cal ix_X5_add [.ref 40, .int 20, .int 0] (st q3.2 hs) [] 0 0 (0, 0) (fun v σ' c' m' => X (42, [some (.ref 40), some (.int 1), some (.int v2), some (.int v3)], v.toList ++ [], σ', c', m'))
            obtain ⟨q4, hq4, hl⟩ := bd_some hl
            refine kcall0 rfl (hk _ _ _ _ _ _ (e_X5_add_40 (d + 12) q3.2 hs 20 0 q4 hq4 _ ?_))
            show X (42, [some (.ref 40), some (.int 1), some (.int v2), some (.int v3)], [.int q4.1], st q4.2 hs, 0, 0)
            refine hX _ ?_
            clear hP hX hk P' X cal
            refine Wp.stepsG 1 (fun cal X P' hk hX hP => ?_)
            show (q4.1 = 0 → X (49, [some (.ref 40), some (.int 1), some (.int v2), some (.int v3)], [], st q4.2 hs, 0, 0)) ∧ (¬ q4.1 = 0 → X (45, [some (.ref 40), some (.int 1), some (.int v2), some (.int v3)], [], st q4.2 hs, 0, 0))
            refine ⟨fun hc => hX _ ?_, fun hc => hX _ ?_⟩
            · clear hP hX hk P' X cal
              rw [if_pos hc] at hl
              refine Wp.stepsG 4 (fun cal X P' hk hX hP => ?_)
              show X (8, [some (.ref 40), some (.int 1), some (.int 0), some (.int (v3 + 1))], [], st q4.2 hs, 0, 0)
              refine hX _ ?_
              exact (ih 0 (v3 + 1) q4.2 q hl ct)
            · clear hP hX hk P' X cal
              rw [if_neg hc] at hl
              refine Wp.stepsG 5 (fun cal X P' hk hX hP => ?_)
              show X (8, [some (.ref 40), some (.int 1), some (.int 1), some (.int (v3 + 1))], [], st q4.2 hs, 0, 0)
              refine hX _ ?_
              exact (ih 1 (v3 + 1) q4.2 q hl ct)
set_option maxRecDepth 20000 in
set_option maxHeartbeats 4000000 in
theorem e_X5_learnEither_d1_40 (d : Nat) (S : St) (hs : List Hr) (v : Int32 × St) (hr : r_X5_learnEither_d1 S 40 = some v) (P : Option Value → Hp → Prop) (h : P (some (.int v.1)) (st v.2 hs)) : Ev (d + 14) ix_X5_learnEither 0 0 [.ref 40, .int 1] (st S hs) P := by
  refine Ev.intro (M := mi_X5_learnEither) rfl (Nat.le_of_ble_eq_true rfl) ?_
  unfold r_X5_learnEither_d1 at hr
  refine Wp.stepsG 3 (fun cal X P' hk hX hP => ?_)
  show kcall cal ix_X5_learnBoth [.ref 40, .int 1] (st S hs) [] 0 0 (0, 0) (fun v σ' c' m' => X (5, [some (.ref 40), some (.int 1), none, none], v.toList ++ [], σ', c', m'))
  obtain ⟨q1, hq1, hr⟩ := bd_some hr
  refine kcall0 rfl (hk _ _ _ _ _ _ (e_X5_learnBoth_d1_40 (d + 0) S hs q1 hq1 _ ?_))
  show X (5, [some (.ref 40), some (.int 1), none, none], [.int q1.1], st q1.2 hs, 0, 0)
  refine hX _ ?_
  clear hP hX hk P' X cal
  refine Wp.stepsG 3 (fun cal X P' hk hX hP => ?_)
  show X (8, [some (.ref 40), some (.int 1), some (.int q1.1), some (.int 0)], [], st q1.2 hs, 0, 0)
  refine hX _ ?_
  clear hP hX hk P' X cal
  obtain ⟨q5, hq5, hr⟩ := bd_some hr
  refine (e_lp_X5_learnEither_d1_8_40 d hs P _ q1.1 0 q1.2 q5 hq5 ?_)
  obtain ⟨hb, hr⟩ := gd_some hr
  have hr := Option.some.inj hr
  subst hr
  refine Wp.stepsG 2 (fun cal X P' hk hX hP => ?_)
  exact ⟨hb, hP _ _ h⟩
def r_X5_learnPart_d0 (S : St) (o : Nat) : Option (Int32 × St) :=
  (r_X5_signAt S o (S.1 o 7)).bind fun q1 =>
  if q1 = 33 then
    if q1 = 33 then
      (r_X5_learnPart_d1 (sI S o 7 ((S.1 o 7) + 1)) o).bind fun q4 =>
      if q4.1 = 0 then
        some (0, q4.2)
      else
        (r_X5_add q4.2 o 18 0).bind fun q5 =>
        if q5.1 = 0 then
          some (0, q5.2)
        else
          some (1, q5.2)
    else
      (r_X5_learnEither_d1 (sI S o 7 ((S.1 o 7) + 1)) o).bind fun q2 =>
      if q2.1 = 0 then
        some (0, q2.2)
      else
        (r_X5_goBy q2.2 o 41).bind fun q3 =>
        if q3.1 = 0 then
          some (0, q3.2)
        else
          some (1, q3.2)
  else
    if q1 = 40 then
      if q1 = 33 then
        (r_X5_learnPart_d1 (sI S o 7 ((S.1 o 7) + 1)) o).bind fun q12 =>
        if q12.1 = 0 then
          some (0, q12.2)
        else
          (r_X5_add q12.2 o 18 0).bind fun q13 =>
          if q13.1 = 0 then
            some (0, q13.2)
          else
            some (1, q13.2)
      else
        (r_X5_learnEither_d1 (sI S o 7 ((S.1 o 7) + 1)) o).bind fun q10 =>
        if q10.1 = 0 then
          some (0, q10.2)
        else
          (r_X5_goBy q10.2 o 41).bind fun q11 =>
          if q11.1 = 0 then
            some (0, q11.2)
          else
            some (1, q11.2)
    else
      (r_X5_goByOneOf_1 S o).bind fun q6 =>
      if 0 ≤ q6.1 then
        (r_X5_goByOneOf_2 q6.2 o).bind fun q7 =>
        if 0 ≤ q7.1 then
          (r_X5_goByNumber q7.2 o).bind fun q8 =>
          if q8.1 < 0 then
            some (0, q8.2)
          else
            (r_X5_add q8.2 o (((3 : Int32) * q6.1) + q7.1) q8.1).bind fun q9 =>
            if q9.1 = 0 then
              some (0, q9.2)
            else
              some (1, q9.2)
        else
          some (0, q7.2)
      else
        some (0, q6.2)
set_option maxRecDepth 20000 in
set_option maxHeartbeats 4000000 in
theorem e_X5_learnPart_d0_40 (d : Nat) (S : St) (hs : List Hr) (v : Int32 × St) (hr : r_X5_learnPart_d0 S 40 = some v) (P : Option Value → Hp → Prop) (h : P (some (.int v.1)) (st v.2 hs)) : Ev (d + 15) ix_X5_learnPart 0 0 [.ref 40, .int 0] (st S hs) P := by
  refine Ev.intro (M := mi_X5_learnPart) rfl (Nat.le_of_ble_eq_true rfl) ?_
  unfold r_X5_learnPart_d0 at hr
  refine Wp.stepsG 4 (fun cal X P' hk hX hP => ?_)
  show kcall cal ix_X5_signAt [.ref 40, .int (S.1 40 7)] (st S hs) [] 0 0 (0, 0) (fun v σ' c' m' => X (8, [some (.ref 40), some (.int 0), none, none, none, none], v.toList ++ [], σ', c', m'))
  obtain ⟨q1, hq1, hr⟩ := bd_some hr
  refine kcall0 rfl (hk _ _ _ _ _ _ (e_X5_signAt_40 (d + 13) S hs (S.1 40 7) q1 hq1 _ ?_))
  show X (8, [some (.ref 40), some (.int 0), none, none, none, none], [.int q1], st S hs, 0, 0)
  refine hX _ ?_
  clear hP hX hk P' X cal
  refine Wp.stepsG 4 (fun cal X P' hk hX hP => ?_)
  show (q1 = 33 → X (21, [some (.ref 40), some (.int 0), some (.int q1), none, none, none], [], st S hs, 0, 0)) ∧ (¬ q1 = 33 → X (15, [some (.ref 40), some (.int 0), some (.int q1), none, none, none], [], st S hs, 0, 0))
  refine ⟨fun hc => hX _ ?_, fun hc => hX _ ?_⟩
  · clear hP hX hk P' X cal
    rw [if_pos hc] at hr
    refine Wp.stepsG 3 (fun cal X P' hk hX hP => ?_)
    show ((0 : Int32) < 4 → X (28, [some (.ref 40), some (.int 0), some (.int q1), none, none, none], [], st S hs, 0, 0)) ∧ (¬ (0 : Int32) < 4 → X (26, [some (.ref 40), some (.int 0), some (.int q1), none, none, none], [], st S hs, 0, 0))
    refine ⟨fun _ => hX _ ?_, fun hc => absurd hc (by decide)⟩
    clear hP hX hk P' X cal
    refine Wp.stepsG 9 (fun cal X P' hk hX hP => ?_)
    show (¬ q1 = 33 → X (72, [some (.ref 40), some (.int 0), some (.int q1), none, none, none], [], st (sI S 40 7 ((S.1 40 7) + 1)) hs, 0, 0)) ∧ (q1 = 33 → X (44, [some (.ref 40), some (.int 0), some (.int q1), none, none, none], [], st (sI S 40 7 ((S.1 40 7) + 1)) hs, 0, 0))
    refine ⟨fun hc => hX _ ?_, fun hc => hX _ ?_⟩
    · clear hP hX hk P' X cal
      rw [if_neg hc] at hr
      refine Wp.stepsG 5 (fun cal X P' hk hX hP => ?_)
      show kcall cal ix_X5_learnEither [.ref 40, .int 1] (st (sI S 40 7 ((S.1 40 7) + 1)) hs) [] 0 0 (0, 0) (fun v σ' c' m' => X (79, [some (.ref 40), some (.int 0), some (.int q1), none, none, none], v.toList ++ [], σ', c', m'))
      obtain ⟨q2, hq2, hr⟩ := bd_some hr
      refine kcall0 rfl (hk _ _ _ _ _ _ (e_X5_learnEither_d1_40 (d + 0) (sI S 40 7 ((S.1 40 7) + 1)) hs q2 hq2 _ ?_))
      show X (79, [some (.ref 40), some (.int 0), some (.int q1), none, none, none], [.int q2.1], st q2.2 hs, 0, 0)
      refine hX _ ?_
      clear hP hX hk P' X cal
      refine Wp.stepsG 1 (fun cal X P' hk hX hP => ?_)
      show (q2.1 = 0 → X (95, [some (.ref 40), some (.int 0), some (.int q1), none, none, none], [], st q2.2 hs, 0, 0)) ∧ (¬ q2.1 = 0 → X (82, [some (.ref 40), some (.int 0), some (.int q1), none, none, none], [], st q2.2 hs, 0, 0))
      refine ⟨fun hc => hX _ ?_, fun hc => hX _ ?_⟩
      · clear hP hX hk P' X cal
        rw [if_pos hc] at hr
        have hr := Option.some.inj hr
        subst hr
        refine Wp.stepsG 2 (fun cal X P' hk hX hP => ?_)
        exact ⟨Or.inl rfl, hP _ _ h⟩
      · clear hP hX hk P' X cal
        rw [if_neg hc] at hr
        refine Wp.stepsG 3 (fun cal X P' hk hX hP => ?_)
        show kcall cal ix_X5_goBy [.ref 40, .int 41] (st q2.2 hs) [] 0 0 (0, 0) (fun v σ' c' m' => X (88, [some (.ref 40), some (.int 0), some (.int q1), none, none, none], v.toList ++ [], σ', c', m'))
        obtain ⟨q3, hq3, hr⟩ := bd_some hr
        refine kcall0 rfl (hk _ _ _ _ _ _ (e_X5_goBy_40 (d + 12) q2.2 hs 41 q3 hq3 _ ?_))
        show X (88, [some (.ref 40), some (.int 0), some (.int q1), none, none, none], [.int q3.1], st q3.2 hs, 0, 0)
        refine hX _ ?_
        clear hP hX hk P' X cal
        refine Wp.stepsG 1 (fun cal X P' hk hX hP => ?_)
        show (q3.1 = 0 → X (95, [some (.ref 40), some (.int 0), some (.int q1), none, none, none], [], st q3.2 hs, 0, 0)) ∧ (¬ q3.1 = 0 → X (91, [some (.ref 40), some (.int 0), some (.int q1), none, none, none], [], st q3.2 hs, 0, 0))
        refine ⟨fun hc => hX _ ?_, fun hc => hX _ ?_⟩
        · clear hP hX hk P' X cal
          rw [if_pos hc] at hr
          have hr := Option.some.inj hr
          subst hr
          refine Wp.stepsG 2 (fun cal X P' hk hX hP => ?_)
          exact ⟨Or.inl rfl, hP _ _ h⟩
        · clear hP hX hk P' X cal
          rw [if_neg hc] at hr
          have hr := Option.some.inj hr
          subst hr
          refine Wp.stepsG 3 (fun cal X P' hk hX hP => ?_)
          exact ⟨Or.inr rfl, hP _ _ h⟩
    · clear hP hX hk P' X cal
      rw [if_pos hc] at hr
      refine Wp.stepsG 5 (fun cal X P' hk hX hP => ?_)
      show kcall cal ix_X5_learnPart [.ref 40, .int 1] (st (sI S 40 7 ((S.1 40 7) + 1)) hs) [] 0 0 (0, 0) (fun v σ' c' m' => X (51, [some (.ref 40), some (.int 0), some (.int q1), none, none, none], v.toList ++ [], σ', c', m'))
      obtain ⟨q4, hq4, hr⟩ := bd_some hr
      refine kcall0 rfl (hk _ _ _ _ _ _ (e_X5_learnPart_d1_40 (d + 2) (sI S 40 7 ((S.1 40 7) + 1)) hs q4 hq4 _ ?_))
      show X (51, [some (.ref 40), some (.int 0), some (.int q1), none, none, none], [.int q4.1], st q4.2 hs, 0, 0)
      refine hX _ ?_
      clear hP hX hk P' X cal
      refine Wp.stepsG 1 (fun cal X P' hk hX hP => ?_)
      show (q4.1 = 0 → X (68, [some (.ref 40), some (.int 0), some (.int q1), none, none, none], [], st q4.2 hs, 0, 0)) ∧ (¬ q4.1 = 0 → X (54, [some (.ref 40), some (.int 0), some (.int q1), none, none, none], [], st q4.2 hs, 0, 0))
      refine ⟨fun hc => hX _ ?_, fun hc => hX _ ?_⟩
      · clear hP hX hk P' X cal
        rw [if_pos hc] at hr
        have hr := Option.some.inj hr
        subst hr
        refine Wp.stepsG 3 (fun cal X P' hk hX hP => ?_)
        exact ⟨Or.inl rfl, hP _ _ h⟩
      · clear hP hX hk P' X cal
        rw [if_neg hc] at hr
        refine Wp.stepsG 4 (fun cal X P' hk hX hP => ?_)
        show kcall cal ix_X5_add [.ref 40, .int 18, .int 0] (st q4.2 hs) [] 0 0 (0, 0) (fun v σ' c' m' => X (61, [some (.ref 40), some (.int 0), some (.int q1), none, none, none], v.toList ++ [], σ', c', m'))
        obtain ⟨q5, hq5, hr⟩ := bd_some hr
        refine kcall0 rfl (hk _ _ _ _ _ _ (e_X5_add_40 (d + 13) q4.2 hs 18 0 q5 hq5 _ ?_))
        show X (61, [some (.ref 40), some (.int 0), some (.int q1), none, none, none], [.int q5.1], st q5.2 hs, 0, 0)
        refine hX _ ?_
        clear hP hX hk P' X cal
        refine Wp.stepsG 1 (fun cal X P' hk hX hP => ?_)
        show (q5.1 = 0 → X (68, [some (.ref 40), some (.int 0), some (.int q1), none, none, none], [], st q5.2 hs, 0, 0)) ∧ (¬ q5.1 = 0 → X (64, [some (.ref 40), some (.int 0), some (.int q1), none, none, none], [], st q5.2 hs, 0, 0))
        refine ⟨fun hc => hX _ ?_, fun hc => hX _ ?_⟩
        · clear hP hX hk P' X cal
          rw [if_pos hc] at hr
          have hr := Option.some.inj hr
          subst hr
          refine Wp.stepsG 3 (fun cal X P' hk hX hP => ?_)
          exact ⟨Or.inl rfl, hP _ _ h⟩
        · clear hP hX hk P' X cal
          rw [if_neg hc] at hr
          have hr := Option.some.inj hr
          subst hr
          refine Wp.stepsG 3 (fun cal X P' hk hX hP => ?_)
          exact ⟨Or.inr rfl, hP _ _ h⟩
  · clear hP hX hk P' X cal
    rw [if_neg hc] at hr
    refine Wp.stepsG 3 (fun cal X P' hk hX hP => ?_)
    show (¬ q1 = 40 → X (97, [some (.ref 40), some (.int 0), some (.int q1), none, none, none], [], st S hs, 0, 0)) ∧ (q1 = 40 → X (21, [some (.ref 40), some (.int 0), some (.int q1), none, none, none], [], st S hs, 0, 0))
    refine ⟨fun hc => hX _ ?_, fun hc => hX _ ?_⟩
    · clear hP hX hk P' X cal
      rw [if_neg hc] at hr
      refine Wp.stepsG 3 (fun cal X P' hk hX hP => ?_)
      show kcall cal ix_X5_goByOneOf [.ref 40, .ref 1] (st S hs) [] 0 0 (0, 0) (fun v σ' c' m' => X (103, [some (.ref 40), some (.int 0), some (.int q1), none, none, none], v.toList ++ [], σ', c', m'))
      obtain ⟨q6, hq6, hr⟩ := bd_some hr
      refine kcall0 rfl (hk _ _ _ _ _ _ (e_X5_goByOneOf_1_40 (d + 12) S hs q6 hq6 _ ?_))
      show X (103, [some (.ref 40), some (.int 0), some (.int q1), none, none, none], [.int q6.1], st q6.2 hs, 0, 0)
      refine hX _ ?_
      clear hP hX hk P' X cal
      refine Wp.stepsG 3 (fun cal X P' hk hX hP => ?_)
      show (0 ≤ q6.1 → X (112, [some (.ref 40), some (.int 0), some (.int q1), some (.int q6.1), none, none], [], st q6.2 hs, 0, 0)) ∧ (¬ 0 ≤ q6.1 → X (108, [some (.ref 40), some (.int 0), some (.int q1), some (.int q6.1), none, none], [], st q6.2 hs, 0, 0))
      refine ⟨fun hc => hX _ ?_, fun hc => hX _ ?_⟩
      · clear hP hX hk P' X cal
        rw [if_pos hc] at hr
        refine Wp.stepsG 3 (fun cal X P' hk hX hP => ?_)
        show kcall cal ix_X5_goByOneOf [.ref 40, .ref 2] (st q6.2 hs) [] 0 0 (0, 0) (fun v σ' c' m' => X (118, [some (.ref 40), some (.int 0), some (.int q1), some (.int q6.1), none, none], v.toList ++ [], σ', c', m'))
        obtain ⟨q7, hq7, hr⟩ := bd_some hr
        refine kcall0 rfl (hk _ _ _ _ _ _ (e_X5_goByOneOf_2_40 (d + 12) q6.2 hs q7 hq7 _ ?_))
        show X (118, [some (.ref 40), some (.int 0), some (.int q1), some (.int q6.1), none, none], [.int q7.1], st q7.2 hs, 0, 0)
        refine hX _ ?_
        clear hP hX hk P' X cal
        refine Wp.stepsG 3 (fun cal X P' hk hX hP => ?_)
        show (0 ≤ q7.1 → X (129, [some (.ref 40), some (.int 0), some (.int q1), some (.int q6.1), some (.int q7.1), none], [], st q7.2 hs, 0, 0)) ∧ (¬ 0 ≤ q7.1 → X (125, [some (.ref 40), some (.int 0), some (.int q1), some (.int q6.1), some (.int q7.1), none], [], st q7.2 hs, 0, 0))
        refine ⟨fun hc => hX _ ?_, fun hc => hX _ ?_⟩
        · clear hP hX hk P' X cal
          rw [if_pos hc] at hr
          refine Wp.stepsG 2 (fun cal X P' hk hX hP => ?_)
          show kcall cal ix_X5_goByNumber [.ref 40] (st q7.2 hs) [] 0 0 (0, 0) (fun v σ' c' m' => X (133, [some (.ref 40), some (.int 0), some (.int q1), some (.int q6.1), some (.int q7.1), none], v.toList ++ [], σ', c', m'))
          obtain ⟨q8, hq8, hr⟩ := bd_some hr
          refine kcall0 rfl (hk _ _ _ _ _ _ (e_X5_goByNumber_40 (d + 12) q7.2 hs q8 hq8 _ ?_))
          show X (133, [some (.ref 40), some (.int 0), some (.int q1), some (.int q6.1), some (.int q7.1), none], [.int q8.1], st q8.2 hs, 0, 0)
          refine hX _ ?_
          clear hP hX hk P' X cal
          refine Wp.stepsG 3 (fun cal X P' hk hX hP => ?_)
          show (q8.1 < 0 → X (159, [some (.ref 40), some (.int 0), some (.int q1), some (.int q6.1), some (.int q7.1), some (.int q8.1)], [], st q8.2 hs, 0, 0)) ∧ (¬ q8.1 < 0 → X (140, [some (.ref 40), some (.int 0), some (.int q1), some (.int q6.1), some (.int q7.1), some (.int q8.1)], [], st q8.2 hs, 0, 0))
          refine ⟨fun hc => hX _ ?_, fun hc => hX _ ?_⟩
          · clear hP hX hk P' X cal
            rw [if_pos hc] at hr
            have hr := Option.some.inj hr
            subst hr
            refine Wp.stepsG 2 (fun cal X P' hk hX hP => ?_)
            exact ⟨Or.inl rfl, hP _ _ h⟩
          · clear hP hX hk P' X cal
            rw [if_neg hc] at hr
            refine Wp.stepsG 8 (fun cal X P' hk hX hP => ?_)
            show kcall cal ix_X5_add [.ref 40, .int (((3 : Int32) * q6.1) + q7.1), .int q8.1] (st q8.2 hs) [] 0 0 (0, 0) (fun v σ' c' m' => X (152, [some (.ref 40), some (.int 0), some (.int q1), some (.int q6.1), some (.int q7.1), some (.int q8.1)], v.toList ++ [], σ', c', m'))
            obtain ⟨q9, hq9, hr⟩ := bd_some hr
            refine kcall0 rfl (hk _ _ _ _ _ _ (e_X5_add_40 (d + 13) q8.2 hs (((3 : Int32) * q6.1) + q7.1) q8.1 q9 hq9 _ ?_))
            show X (152, [some (.ref 40), some (.int 0), some (.int q1), some (.int q6.1), some (.int q7.1), some (.int q8.1)], [.int q9.1], st q9.2 hs, 0, 0)
            refine hX _ ?_
            clear hP hX hk P' X cal
            refine Wp.stepsG 1 (fun cal X P' hk hX hP => ?_)
            show (q9.1 = 0 → X (159, [some (.ref 40), some (.int 0), some (.int q1), some (.int q6.1), some (.int q7.1), some (.int q8.1)], [], st q9.2 hs, 0, 0)) ∧ (¬ q9.1 = 0 → X (155, [some (.ref 40), some (.int 0), some (.int q1), some (.int q6.1), some (.int q7.1), some (.int q8.1)], [], st q9.2 hs, 0, 0))
            refine ⟨fun hc => hX _ ?_, fun hc => hX _ ?_⟩
            · clear hP hX hk P' X cal
              rw [if_pos hc] at hr
              have hr := Option.some.inj hr
              subst hr
              refine Wp.stepsG 2 (fun cal X P' hk hX hP => ?_)
              exact ⟨Or.inl rfl, hP _ _ h⟩
            · clear hP hX hk P' X cal
              rw [if_neg hc] at hr
              have hr := Option.some.inj hr
              subst hr
              refine Wp.stepsG 3 (fun cal X P' hk hX hP => ?_)
              exact ⟨Or.inr rfl, hP _ _ h⟩
        · clear hP hX hk P' X cal
          rw [if_neg hc] at hr
          refine Wp.stepsG 5 (fun cal X P' hk hX hP => ?_)
          show (((-1) : Int32) < 0 → X (159, [some (.ref 40), some (.int 0), some (.int q1), some (.int q6.1), some (.int q7.1), some (.int (-1))], [], st q7.2 hs, 0, 0)) ∧ (¬ ((-1) : Int32) < 0 → X (140, [some (.ref 40), some (.int 0), some (.int q1), some (.int q6.1), some (.int q7.1), some (.int (-1))], [], st q7.2 hs, 0, 0))
          refine ⟨fun _ => hX _ ?_, fun hc => absurd hc (by decide)⟩
          clear hP hX hk P' X cal
          have hr := Option.some.inj hr
          subst hr
          refine Wp.stepsG 2 (fun cal X P' hk hX hP => ?_)
          exact ⟨Or.inl rfl, hP _ _ h⟩
      · clear hP hX hk P' X cal
        rw [if_neg hc] at hr
        refine Wp.stepsG 5 (fun cal X P' hk hX hP => ?_)
        show (0 ≤ ((-1) : Int32) → X (129, [some (.ref 40), some (.int 0), some (.int q1), some (.int q6.1), some (.int (-1)), none], [], st q6.2 hs, 0, 0)) ∧ (¬ 0 ≤ ((-1) : Int32) → X (125, [some (.ref 40), some (.int 0), some (.int q1), some (.int q6.1), some (.int (-1)), none], [], st q6.2 hs, 0, 0))
        refine ⟨fun hc => absurd hc (by decide), fun _ => hX _ ?_⟩
        clear hP hX hk P' X cal
        refine Wp.stepsG 5 (fun cal X P' hk hX hP => ?_)
        show (((-1) : Int32) < 0 → X (159, [some (.ref 40), some (.int 0), some (.int q1), some (.int q6.1), some (.int (-1)), some (.int (-1))], [], st q6.2 hs, 0, 0)) ∧ (¬ ((-1) : Int32) < 0 → X (140, [some (.ref 40), some (.int 0), some (.int q1), some (.int q6.1), some (.int (-1)), some (.int (-1))], [], st q6.2 hs, 0, 0))
        refine ⟨fun _ => hX _ ?_, fun hc => absurd hc (by decide)⟩
        clear hP hX hk P' X cal
        have hr := Option.some.inj hr
        subst hr
        refine Wp.stepsG 2 (fun cal X P' hk hX hP => ?_)
        exact ⟨Or.inl rfl, hP _ _ h⟩
    · clear hP hX hk P' X cal
      rw [if_pos hc] at hr
      refine Wp.stepsG 3 (fun cal X P' hk hX hP => ?_)
      show ((0 : Int32) < 4 → X (28, [some (.ref 40), some (.int 0), some (.int q1), none, none, none], [], st S hs, 0, 0)) ∧ (¬ (0 : Int32) < 4 → X (26, [some (.ref 40), some (.int 0), some (.int q1), none, none, none], [], st S hs, 0, 0))
      refine ⟨fun _ => hX _ ?_, fun hc => absurd hc (by decide)⟩
      clear hP hX hk P' X cal
      refine Wp.stepsG 9 (fun cal X P' hk hX hP => ?_)
      show (¬ q1 = 33 → X (72, [some (.ref 40), some (.int 0), some (.int q1), none, none, none], [], st (sI S 40 7 ((S.1 40 7) + 1)) hs, 0, 0)) ∧ (q1 = 33 → X (44, [some (.ref 40), some (.int 0), some (.int q1), none, none, none], [], st (sI S 40 7 ((S.1 40 7) + 1)) hs, 0, 0))
      refine ⟨fun hc => hX _ ?_, fun hc => hX _ ?_⟩
      · clear hP hX hk P' X cal
        rw [if_neg hc] at hr
        refine Wp.stepsG 5 (fun cal X P' hk hX hP => ?_)
        show kcall cal ix_X5_learnEither [.ref 40, .int 1] (st (sI S 40 7 ((S.1 40 7) + 1)) hs) [] 0 0 (0, 0) (fun v σ' c' m' => X (79, [some (.ref 40), some (.int 0), some (.int q1), none, none, none], v.toList ++ [], σ', c', m'))
        obtain ⟨q10, hq10, hr⟩ := bd_some hr
        refine kcall0 rfl (hk _ _ _ _ _ _ (e_X5_learnEither_d1_40 (d + 0) (sI S 40 7 ((S.1 40 7) + 1)) hs q10 hq10 _ ?_))
        show X (79, [some (.ref 40), some (.int 0), some (.int q1), none, none, none], [.int q10.1], st q10.2 hs, 0, 0)
        refine hX _ ?_
        clear hP hX hk P' X cal
        refine Wp.stepsG 1 (fun cal X P' hk hX hP => ?_)
        show (q10.1 = 0 → X (95, [some (.ref 40), some (.int 0), some (.int q1), none, none, none], [], st q10.2 hs, 0, 0)) ∧ (¬ q10.1 = 0 → X (82, [some (.ref 40), some (.int 0), some (.int q1), none, none, none], [], st q10.2 hs, 0, 0))
        refine ⟨fun hc => hX _ ?_, fun hc => hX _ ?_⟩
        · clear hP hX hk P' X cal
          rw [if_pos hc] at hr
          have hr := Option.some.inj hr
          subst hr
          refine Wp.stepsG 2 (fun cal X P' hk hX hP => ?_)
          exact ⟨Or.inl rfl, hP _ _ h⟩
        · clear hP hX hk P' X cal
          rw [if_neg hc] at hr
          refine Wp.stepsG 3 (fun cal X P' hk hX hP => ?_)
          show kcall cal ix_X5_goBy [.ref 40, .int 41] (st q10.2 hs) [] 0 0 (0, 0) (fun v σ' c' m' => X (88, [some (.ref 40), some (.int 0), some (.int q1), none, none, none], v.toList ++ [], σ', c', m'))
          obtain ⟨q11, hq11, hr⟩ := bd_some hr
          refine kcall0 rfl (hk _ _ _ _ _ _ (e_X5_goBy_40 (d + 12) q10.2 hs 41 q11 hq11 _ ?_))
          show X (88, [some (.ref 40), some (.int 0), some (.int q1), none, none, none], [.int q11.1], st q11.2 hs, 0, 0)
          refine hX _ ?_
          clear hP hX hk P' X cal
          refine Wp.stepsG 1 (fun cal X P' hk hX hP => ?_)
          show (q11.1 = 0 → X (95, [some (.ref 40), some (.int 0), some (.int q1), none, none, none], [], st q11.2 hs, 0, 0)) ∧ (¬ q11.1 = 0 → X (91, [some (.ref 40), some (.int 0), some (.int q1), none, none, none], [], st q11.2 hs, 0, 0))
          refine ⟨fun hc => hX _ ?_, fun hc => hX _ ?_⟩
          · clear hP hX hk P' X cal
            rw [if_pos hc] at hr
            have hr := Option.some.inj hr
            subst hr
            refine Wp.stepsG 2 (fun cal X P' hk hX hP => ?_)
            exact ⟨Or.inl rfl, hP _ _ h⟩
          · clear hP hX hk P' X cal
            rw [if_neg hc] at hr
            have hr := Option.some.inj hr
            subst hr
            refine Wp.stepsG 3 (fun cal X P' hk hX hP => ?_)
            exact ⟨Or.inr rfl, hP _ _ h⟩
      · clear hP hX hk P' X cal
        rw [if_pos hc] at hr
        refine Wp.stepsG 5 (fun cal X P' hk hX hP => ?_)
        show kcall cal ix_X5_learnPart [.ref 40, .int 1] (st (sI S 40 7 ((S.1 40 7) + 1)) hs) [] 0 0 (0, 0) (fun v σ' c' m' => X (51, [some (.ref 40), some (.int 0), some (.int q1), none, none, none], v.toList ++ [], σ', c', m'))
        obtain ⟨q12, hq12, hr⟩ := bd_some hr
        refine kcall0 rfl (hk _ _ _ _ _ _ (e_X5_learnPart_d1_40 (d + 2) (sI S 40 7 ((S.1 40 7) + 1)) hs q12 hq12 _ ?_))
        show X (51, [some (.ref 40), some (.int 0), some (.int q1), none, none, none], [.int q12.1], st q12.2 hs, 0, 0)
        refine hX _ ?_
        clear hP hX hk P' X cal
        refine Wp.stepsG 1 (fun cal X P' hk hX hP => ?_)
        show (q12.1 = 0 → X (68, [some (.ref 40), some (.int 0), some (.int q1), none, none, none], [], st q12.2 hs, 0, 0)) ∧ (¬ q12.1 = 0 → X (54, [some (.ref 40), some (.int 0), some (.int q1), none, none, none], [], st q12.2 hs, 0, 0))
        refine ⟨fun hc => hX _ ?_, fun hc => hX _ ?_⟩
        · clear hP hX hk P' X cal
          rw [if_pos hc] at hr
          have hr := Option.some.inj hr
          subst hr
          refine Wp.stepsG 3 (fun cal X P' hk hX hP => ?_)
          exact ⟨Or.inl rfl, hP _ _ h⟩
        · clear hP hX hk P' X cal
          rw [if_neg hc] at hr
          refine Wp.stepsG 4 (fun cal X P' hk hX hP => ?_)
          show kcall cal ix_X5_add [.ref 40, .int 18, .int 0] (st q12.2 hs) [] 0 0 (0, 0) (fun v σ' c' m' => X (61, [some (.ref 40), some (.int 0), some (.int q1), none, none, none], v.toList ++ [], σ', c', m'))
          obtain ⟨q13, hq13, hr⟩ := bd_some hr
          refine kcall0 rfl (hk _ _ _ _ _ _ (e_X5_add_40 (d + 13) q12.2 hs 18 0 q13 hq13 _ ?_))
          show X (61, [some (.ref 40), some (.int 0), some (.int q1), none, none, none], [.int q13.1], st q13.2 hs, 0, 0)
          refine hX _ ?_
          clear hP hX hk P' X cal
          refine Wp.stepsG 1 (fun cal X P' hk hX hP => ?_)
          show (q13.1 = 0 → X (68, [some (.ref 40), some (.int 0), some (.int q1), none, none, none], [], st q13.2 hs, 0, 0)) ∧ (¬ q13.1 = 0 → X (64, [some (.ref 40), some (.int 0), some (.int q1), none, none, none], [], st q13.2 hs, 0, 0))
          refine ⟨fun hc => hX _ ?_, fun hc => hX _ ?_⟩
          · clear hP hX hk P' X cal
            rw [if_pos hc] at hr
            have hr := Option.some.inj hr
            subst hr
            refine Wp.stepsG 3 (fun cal X P' hk hX hP => ?_)
            exact ⟨Or.inl rfl, hP _ _ h⟩
          · clear hP hX hk P' X cal
            rw [if_neg hc] at hr
            have hr := Option.some.inj hr
            subst hr
            refine Wp.stepsG 3 (fun cal X P' hk hX hP => ?_)
            exact ⟨Or.inr rfl, hP _ _ h⟩
def lp_X5_learnBoth_d0_8 (o : Nat) : Nat → Int32 → Int32 → St → Option (Int32 × St)
  | 0, _, _, _ => none
  | n + 1, v2, v3, S =>
    if 100 ≤ v3 then
      some (v2, S)
    else
      if v2 = 0 then
        some (v2, S)
      else
        (r_X5_goBy S o 38).bind fun q2 =>
        if q2.1 = 0 then
          some (v2, q2.2)
        else
          (r_X5_learnPart_d0 q2.2 o).bind fun q3 =>
          if q3.1 = 0 then
            lp_X5_learnBoth_d0_8 o n 0 (v3 + 1) q3.2
          else
            (r_X5_add q3.2 o 19 0).bind fun q4 =>
            if q4.1 = 0 then
              lp_X5_learnBoth_d0_8 o n 0 (v3 + 1) q4.2
            else
              lp_X5_learnBoth_d0_8 o n 1 (v3 + 1) q4.2
def r_X5_learnBoth_d0 (S : St) (o : Nat) : Option (Int32 × St) :=
  (r_X5_learnPart_d0 S o).bind fun q1 =>
  (lp_X5_learnBoth_d0_8 o 4000 q1.1 0 q1.2).bind fun q5 =>
    gd (q5.1 = 0 ∨ q5.1 = 1) (some (q5.1, q5.2))
set_option maxRecDepth 20000 in
set_option maxHeartbeats 4000000 in
theorem e_lp_X5_learnBoth_d0_8_40 (d : Nat) (hs : List Hr) (P : Option Value → Hp → Prop) : ∀ (n : Nat) (v2 : Int32) (v3 : Int32) (S : St) (q : Int32 × St), lp_X5_learnBoth_d0_8 40 n v2 v3 S = some q → (WM mi_X5_learnBoth (d + 15) P 57 [some (.ref 40), some (.int 0), some (.int q.1), none] [] (st q.2 hs)) → WM mi_X5_learnBoth (d + 15) P 8 [some (.ref 40), some (.int 0), some (.int v2), some (.int v3)] [] (st S hs) := by
  intro n
  induction n with
  | zero =>
    intro v2 v3 S q hl
    cases hl
  | succ n ih =>
    intro v2 v3 S q hl ct
    rw [lp_X5_learnBoth_d0_8] at hl
    refine Wp.stepsG 3 (fun cal X P' hk hX hP => ?_)
    show (100 ≤ v3 → X (57, [some (.ref 40), some (.int 0), some (.int v2), some (.int v3)], [], st S hs, 0, 0)) ∧ (¬ 100 ≤ v3 → X (14, [some (.ref 40), some (.int 0), some (.int v2), some (.int v3)], [], st S hs, 0, 0))
    refine ⟨fun hc => hX _ ?_, fun hc => hX _ ?_⟩
    · clear hP hX hk P' X cal
      rw [if_pos hc] at hl
      have hl := Option.some.inj hl
      subst hl
      exact Wp.weak (leL.k (leL.k (leL.k (leL.n leL.z)))) (ct)
    · clear hP hX hk P' X cal
      rw [if_neg hc] at hl
      refine Wp.stepsG 2 (fun cal X P' hk hX hP => ?_)
      show (v2 = 0 → X (57, [some (.ref 40), some (.int 0), some (.int v2), some (.int v3)], [], st S hs, 0, 0)) ∧ (¬ v2 = 0 → X (18, [some (.ref 40), some (.int 0), some (.int v2), some (.int v3)], [], st S hs, 0, 0))
      refine ⟨fun hc => hX _ ?_, fun hc => hX _ ?_⟩
      · clear hP hX hk P' X cal
        rw [if_pos hc] at hl
        have hl := Option.some.inj hl
        subst hl
        exact Wp.weak (leL.k (leL.k (leL.k (leL.n leL.z)))) (ct)
      · clear hP hX hk P' X cal
        rw [if_neg hc] at hl
        refine Wp.stepsG 3 (fun cal X P' hk hX hP => ?_)
        show kcall cal ix_X5_goBy [.ref 40, .int 38] (st S hs) [] 0 0 (0, 0) (fun v σ' c' m' => X (24, [some (.ref 40), some (.int 0), some (.int v2), some (.int v3)], v.toList ++ [], σ', c', m'))
        obtain ⟨q2, hq2, hl⟩ := bd_some hl
        refine kcall0 rfl (hk _ _ _ _ _ _ (e_X5_goBy_40 (d + 13) S hs 38 q2 hq2 _ ?_))
        show X (24, [some (.ref 40), some (.int 0), some (.int v2), some (.int v3)], [.int q2.1], st q2.2 hs, 0, 0)
        refine hX _ ?_
        clear hP hX hk P' X cal
        refine Wp.stepsG 1 (fun cal X P' hk hX hP => ?_)
        show (q2.1 = 0 → X (57, [some (.ref 40), some (.int 0), some (.int v2), some (.int v3)], [], st q2.2 hs, 0, 0)) ∧ (¬ q2.1 = 0 → X (27, [some (.ref 40), some (.int 0), some (.int v2), some (.int v3)], [], st q2.2 hs, 0, 0))
        refine ⟨fun hc => hX _ ?_, fun hc => hX _ ?_⟩
        · clear hP hX hk P' X cal
          rw [if_pos hc] at hl
          have hl := Option.some.inj hl
          subst hl
          exact Wp.weak (leL.k (leL.k (leL.k (leL.n leL.z)))) (ct)
        · clear hP hX hk P' X cal
          rw [if_neg hc] at hl
          refine Wp.stepsG 3 (fun cal X P' hk hX hP => ?_)
          show kcall cal ix_X5_learnPart [.ref 40, .int 0] (st q2.2 hs) [] 0 0 (0, 0) (fun v σ' c' m' => X (32, [some (.ref 40), some (.int 0), some (.int v2), some (.int v3)], v.toList ++ [], σ', c', m'))
          obtain ⟨q3, hq3, hl⟩ := bd_some hl
          refine kcall0 rfl (hk _ _ _ _ _ _ (e_X5_learnPart_d0_40 (d + 0) q2.2 hs q3 hq3 _ ?_))
          show X (32, [some (.ref 40), some (.int 0), some (.int v2), some (.int v3)], [.int q3.1], st q3.2 hs, 0, 0)
          refine hX _ ?_
          clear hP hX hk P' X cal
          refine Wp.stepsG 1 (fun cal X P' hk hX hP => ?_)
          show (q3.1 = 0 → X (49, [some (.ref 40), some (.int 0), some (.int v2), some (.int v3)], [], st q3.2 hs, 0, 0)) ∧ (¬ q3.1 = 0 → X (35, [some (.ref 40), some (.int 0), some (.int v2), some (.int v3)], [], st q3.2 hs, 0, 0))
          refine ⟨fun hc => hX _ ?_, fun hc => hX _ ?_⟩
          · clear hP hX hk P' X cal
            rw [if_pos hc] at hl
            refine Wp.stepsG 4 (fun cal X P' hk hX hP => ?_)
            show X (8, [some (.ref 40), some (.int 0), some (.int 0), some (.int (v3 + 1))], [], st q3.2 hs, 0, 0)
            refine hX _ ?_
            exact (ih 0 (v3 + 1) q3.2 q hl ct)
          · clear hP hX hk P' X cal
            rw [if_neg hc] at hl
            refine Wp.stepsG 4 (fun cal X P' hk hX hP => ?_)
            show kcall cal ix_X5_add [.ref 40, .int 19, .int 0] (st q3.2 hs) [] 0 0 (0, 0) (fun v σ' c' m' => X (42, [some (.ref 40), some (.int 0), some (.int v2), some (.int v3)], v.toList ++ [], σ', c', m'))
            obtain ⟨q4, hq4, hl⟩ := bd_some hl
            refine kcall0 rfl (hk _ _ _ _ _ _ (e_X5_add_40 (d + 14) q3.2 hs 19 0 q4 hq4 _ ?_))
            show X (42, [some (.ref 40), some (.int 0), some (.int v2), some (.int v3)], [.int q4.1], st q4.2 hs, 0, 0)
            refine hX _ ?_
            clear hP hX hk P' X cal
            refine Wp.stepsG 1 (fun cal X P' hk hX hP => ?_)
            show (q4.1 = 0 → X (49, [some (.ref 40), some (.int 0), some (.int v2), some (.int v3)], [], st q4.2 hs, 0, 0)) ∧ (¬ q4.1 = 0 → X (45, [some (.ref 40), some (.int 0), some (.int v2), some (.int v3)], [], st q4.2 hs, 0, 0))
            refine ⟨fun hc => hX _ ?_, fun hc => hX _ ?_⟩
            · clear hP hX hk P' X cal
              rw [if_pos hc] at hl
              refine Wp.stepsG 4 (fun cal X P' hk hX hP => ?_)
              show X (8, [some (.ref 40), some (.int 0), some (.int 0), some (.int (v3 + 1))], [], st q4.2 hs, 0, 0)
              refine hX _ ?_
              exact (ih 0 (v3 + 1) q4.2 q hl ct)
            · clear hP hX hk P' X cal
              rw [if_neg hc] at hl
              refine Wp.stepsG 5 (fun cal X P' hk hX hP => ?_)
              show X (8, [some (.ref 40), some (.int 0), some (.int 1), some (.int (v3 + 1))], [], st q4.2 hs, 0, 0)
              refine hX _ ?_
              exact (ih 1 (v3 + 1) q4.2 q hl ct)
set_option maxRecDepth 20000 in
set_option maxHeartbeats 4000000 in
theorem e_X5_learnBoth_d0_40 (d : Nat) (S : St) (hs : List Hr) (v : Int32 × St) (hr : r_X5_learnBoth_d0 S 40 = some v) (P : Option Value → Hp → Prop) (h : P (some (.int v.1)) (st v.2 hs)) : Ev (d + 16) ix_X5_learnBoth 0 0 [.ref 40, .int 0] (st S hs) P := by
  refine Ev.intro (M := mi_X5_learnBoth) rfl (Nat.le_of_ble_eq_true rfl) ?_
  unfold r_X5_learnBoth_d0 at hr
  refine Wp.stepsG 3 (fun cal X P' hk hX hP => ?_)
  show kcall cal ix_X5_learnPart [.ref 40, .int 0] (st S hs) [] 0 0 (0, 0) (fun v σ' c' m' => X (5, [some (.ref 40), some (.int 0), none, none], v.toList ++ [], σ', c', m'))
  obtain ⟨q1, hq1, hr⟩ := bd_some hr
  refine kcall0 rfl (hk _ _ _ _ _ _ (e_X5_learnPart_d0_40 (d + 0) S hs q1 hq1 _ ?_))
  show X (5, [some (.ref 40), some (.int 0), none, none], [.int q1.1], st q1.2 hs, 0, 0)
  refine hX _ ?_
  clear hP hX hk P' X cal
  refine Wp.stepsG 3 (fun cal X P' hk hX hP => ?_)
  show X (8, [some (.ref 40), some (.int 0), some (.int q1.1), some (.int 0)], [], st q1.2 hs, 0, 0)
  refine hX _ ?_
  clear hP hX hk P' X cal
  obtain ⟨q5, hq5, hr⟩ := bd_some hr
  refine (e_lp_X5_learnBoth_d0_8_40 d hs P _ q1.1 0 q1.2 q5 hq5 ?_)
  obtain ⟨hb, hr⟩ := gd_some hr
  have hr := Option.some.inj hr
  subst hr
  refine Wp.stepsG 2 (fun cal X P' hk hX hP => ?_)
  exact ⟨hb, hP _ _ h⟩
def lp_X5_learnEither_d0_8 (o : Nat) : Nat → Int32 → Int32 → St → Option (Int32 × St)
  | 0, _, _, _ => none
  | n + 1, v2, v3, S =>
    if 100 ≤ v3 then
      some (v2, S)
    else
      if v2 = 0 then
        some (v2, S)
      else
        (r_X5_goBy S o 124).bind fun q2 =>
        if q2.1 = 0 then
          some (v2, q2.2)
        else
          (r_X5_learnBoth_d0 q2.2 o).bind fun q3 =>
          if q3.1 = 0 then
            lp_X5_learnEither_d0_8 o n 0 (v3 + 1) q3.2
          else
            (r_X5_add q3.2 o 20 0).bind fun q4 =>
            if q4.1 = 0 then
              lp_X5_learnEither_d0_8 o n 0 (v3 + 1) q4.2
            else
              lp_X5_learnEither_d0_8 o n 1 (v3 + 1) q4.2
def r_X5_learnEither_d0 (S : St) (o : Nat) : Option (Int32 × St) :=
  (r_X5_learnBoth_d0 S o).bind fun q1 =>
  (lp_X5_learnEither_d0_8 o 4000 q1.1 0 q1.2).bind fun q5 =>
    gd (q5.1 = 0 ∨ q5.1 = 1) (some (q5.1, q5.2))
set_option maxRecDepth 20000 in
set_option maxHeartbeats 4000000 in
theorem e_lp_X5_learnEither_d0_8_40 (d : Nat) (hs : List Hr) (P : Option Value → Hp → Prop) : ∀ (n : Nat) (v2 : Int32) (v3 : Int32) (S : St) (q : Int32 × St), lp_X5_learnEither_d0_8 40 n v2 v3 S = some q → (WM mi_X5_learnEither (d + 16) P 57 [some (.ref 40), some (.int 0), some (.int q.1), none] [] (st q.2 hs)) → WM mi_X5_learnEither (d + 16) P 8 [some (.ref 40), some (.int 0), some (.int v2), some (.int v3)] [] (st S hs) := by
  intro n
  induction n with
  | zero =>
    intro v2 v3 S q hl
    cases hl
  | succ n ih =>
    intro v2 v3 S q hl ct
    rw [lp_X5_learnEither_d0_8] at hl
    refine Wp.stepsG 3 (fun cal X P' hk hX hP => ?_)
    show (100 ≤ v3 → X (57, [some (.ref 40), some (.int 0), some (.int v2), some (.int v3)], [], st S hs, 0, 0)) ∧ (¬ 100 ≤ v3 → X (14, [some (.ref 40), some (.int 0), some (.int v2), some (.int v3)], [], st S hs, 0, 0))
    refine ⟨fun hc => hX _ ?_, fun hc => hX _ ?_⟩
    · clear hP hX hk P' X cal
      rw [if_pos hc] at hl
      have hl := Option.some.inj hl
      subst hl
      exact Wp.weak (leL.k (leL.k (leL.k (leL.n leL.z)))) (ct)
    · clear hP hX hk P' X cal
      rw [if_neg hc] at hl
      refine Wp.stepsG 2 (fun cal X P' hk hX hP => ?_)
      show (v2 = 0 → X (57, [some (.ref 40), some (.int 0), some (.int v2), some (.int v3)], [], st S hs, 0, 0)) ∧ (¬ v2 = 0 → X (18, [some (.ref 40), some (.int 0), some (.int v2), some (.int v3)], [], st S hs, 0, 0))
      refine ⟨fun hc => hX _ ?_, fun hc => hX _ ?_⟩
      · clear hP hX hk P' X cal
        rw [if_pos hc] at hl
        have hl := Option.some.inj hl
        subst hl
        exact Wp.weak (leL.k (leL.k (leL.k (leL.n leL.z)))) (ct)
      · clear hP hX hk P' X cal
        rw [if_neg hc] at hl
        refine Wp.stepsG 3 (fun cal X P' hk hX hP => ?_)
        show kcall cal ix_X5_goBy [.ref 40, .int 124] (st S hs) [] 0 0 (0, 0) (fun v σ' c' m' => X (24, [some (.ref 40), some (.int 0), some (.int v2), some (.int v3)], v.toList ++ [], σ', c', m'))
        obtain ⟨q2, hq2, hl⟩ := bd_some hl
        refine kcall0 rfl (hk _ _ _ _ _ _ (e_X5_goBy_40 (d + 14) S hs 124 q2 hq2 _ ?_))
        show X (24, [some (.ref 40), some (.int 0), some (.int v2), some (.int v3)], [.int q2.1], st q2.2 hs, 0, 0)
        refine hX _ ?_
        clear hP hX hk P' X cal
        refine Wp.stepsG 1 (fun cal X P' hk hX hP => ?_)
        show (q2.1 = 0 → X (57, [some (.ref 40), some (.int 0), some (.int v2), some (.int v3)], [], st q2.2 hs, 0, 0)) ∧ (¬ q2.1 = 0 → X (27, [some (.ref 40), some (.int 0), some (.int v2), some (.int v3)], [], st q2.2 hs, 0, 0))
        refine ⟨fun hc => hX _ ?_, fun hc => hX _ ?_⟩
        · clear hP hX hk P' X cal
          rw [if_pos hc] at hl
          have hl := Option.some.inj hl
          subst hl
          exact Wp.weak (leL.k (leL.k (leL.k (leL.n leL.z)))) (ct)
        · clear hP hX hk P' X cal
          rw [if_neg hc] at hl
          refine Wp.stepsG 3 (fun cal X P' hk hX hP => ?_)
          show kcall cal ix_X5_learnBoth [.ref 40, .int 0] (st q2.2 hs) [] 0 0 (0, 0) (fun v σ' c' m' => X (32, [some (.ref 40), some (.int 0), some (.int v2), some (.int v3)], v.toList ++ [], σ', c', m'))
          obtain ⟨q3, hq3, hl⟩ := bd_some hl
          refine kcall0 rfl (hk _ _ _ _ _ _ (e_X5_learnBoth_d0_40 (d + 0) q2.2 hs q3 hq3 _ ?_))
          show X (32, [some (.ref 40), some (.int 0), some (.int v2), some (.int v3)], [.int q3.1], st q3.2 hs, 0, 0)
          refine hX _ ?_
          clear hP hX hk P' X cal
          refine Wp.stepsG 1 (fun cal X P' hk hX hP => ?_)
          show (q3.1 = 0 → X (49, [some (.ref 40), some (.int 0), some (.int v2), some (.int v3)], [], st q3.2 hs, 0, 0)) ∧ (¬ q3.1 = 0 → X (35, [some (.ref 40), some (.int 0), some (.int v2), some (.int v3)], [], st q3.2 hs, 0, 0))
          refine ⟨fun hc => hX _ ?_, fun hc => hX _ ?_⟩
          · clear hP hX hk P' X cal
            rw [if_pos hc] at hl
            refine Wp.stepsG 4 (fun cal X P' hk hX hP => ?_)
            show X (8, [some (.ref 40), some (.int 0), some (.int 0), some (.int (v3 + 1))], [], st q3.2 hs, 0, 0)
            refine hX _ ?_
            exact (ih 0 (v3 + 1) q3.2 q hl ct)
          · clear hP hX hk P' X cal
            rw [if_neg hc] at hl
            refine Wp.stepsG 4 (fun cal X P' hk hX hP => ?_)
            show kcall cal ix_X5_add [.ref 40, .int 20, .int 0] (st q3.2 hs) [] 0 0 (0, 0) (fun v σ' c' m' => X (42, [some (.ref 40), some (.int 0), some (.int v2), some (.int v3)], v.toList ++ [], σ', c', m'))
            obtain ⟨q4, hq4, hl⟩ := bd_some hl
            refine kcall0 rfl (hk _ _ _ _ _ _ (e_X5_add_40 (d + 15) q3.2 hs 20 0 q4 hq4 _ ?_))
            show X (42, [some (.ref 40), some (.int 0), some (.int v2), some (.int v3)], [.int q4.1], st q4.2 hs, 0, 0)
            refine hX _ ?_
            clear hP hX hk P' X cal
            refine Wp.stepsG 1 (fun cal X P' hk hX hP => ?_)
            show (q4.1 = 0 → X (49, [some (.ref 40), some (.int 0), some (.int v2), some (.int v3)], [], st q4.2 hs, 0, 0)) ∧ (¬ q4.1 = 0 → X (45, [some (.ref 40), some (.int 0), some (.int v2), some (.int v3)], [], st q4.2 hs, 0, 0))
            refine ⟨fun hc => hX _ ?_, fun hc => hX _ ?_⟩
            · clear hP hX hk P' X cal
              rw [if_pos hc] at hl
              refine Wp.stepsG 4 (fun cal X P' hk hX hP => ?_)
              show X (8, [some (.ref 40), some (.int 0), some (.int 0), some (.int (v3 + 1))], [], st q4.2 hs, 0, 0)
              refine hX _ ?_
              exact (ih 0 (v3 + 1) q4.2 q hl ct)
            · clear hP hX hk P' X cal
              rw [if_neg hc] at hl
              refine Wp.stepsG 5 (fun cal X P' hk hX hP => ?_)
              show X (8, [some (.ref 40), some (.int 0), some (.int 1), some (.int (v3 + 1))], [], st q4.2 hs, 0, 0)
              refine hX _ ?_
              exact (ih 1 (v3 + 1) q4.2 q hl ct)
set_option maxRecDepth 20000 in
set_option maxHeartbeats 4000000 in
theorem e_X5_learnEither_d0_40 (d : Nat) (S : St) (hs : List Hr) (v : Int32 × St) (hr : r_X5_learnEither_d0 S 40 = some v) (P : Option Value → Hp → Prop) (h : P (some (.int v.1)) (st v.2 hs)) : Ev (d + 17) ix_X5_learnEither 0 0 [.ref 40, .int 0] (st S hs) P := by
  refine Ev.intro (M := mi_X5_learnEither) rfl (Nat.le_of_ble_eq_true rfl) ?_
  unfold r_X5_learnEither_d0 at hr
  refine Wp.stepsG 3 (fun cal X P' hk hX hP => ?_)
  show kcall cal ix_X5_learnBoth [.ref 40, .int 0] (st S hs) [] 0 0 (0, 0) (fun v σ' c' m' => X (5, [some (.ref 40), some (.int 0), none, none], v.toList ++ [], σ', c', m'))
  obtain ⟨q1, hq1, hr⟩ := bd_some hr
  refine kcall0 rfl (hk _ _ _ _ _ _ (e_X5_learnBoth_d0_40 (d + 0) S hs q1 hq1 _ ?_))
  show X (5, [some (.ref 40), some (.int 0), none, none], [.int q1.1], st q1.2 hs, 0, 0)
  refine hX _ ?_
  clear hP hX hk P' X cal
  refine Wp.stepsG 3 (fun cal X P' hk hX hP => ?_)
  show X (8, [some (.ref 40), some (.int 0), some (.int q1.1), some (.int 0)], [], st q1.2 hs, 0, 0)
  refine hX _ ?_
  clear hP hX hk P' X cal
  obtain ⟨q5, hq5, hr⟩ := bd_some hr
  refine (e_lp_X5_learnEither_d0_8_40 d hs P _ q1.1 0 q1.2 q5 hq5 ?_)
  obtain ⟨hb, hr⟩ := gd_some hr
  have hr := Option.some.inj hr
  subst hr
  refine Wp.stepsG 2 (fun cal X P' hk hX hP => ?_)
  exact ⟨hb, hP _ _ h⟩
def r_X5_learnClause (S : St) (o : Nat) : Option (Int32 × St) :=
  (r_X5_goByWord S o).bind fun q1 =>
  if q1.1 < 0 then
    some (0, q1.2)
  else
    (r_X5_goBy q1.2 o 32).bind fun q2 =>
    if q2.1 = 0 then
      some (0, q2.2)
    else
      (r_X5_goByNumber q2.2 o).bind fun q3 =>
      if 0 ≤ q3.1 then
        if q1.1 = 2 then
          some (1, sI q3.2 o 3 q3.1)
        else
        if q1.1 = 3 then
          some (1, sI q3.2 o 4 q3.1)
        else
          (r_X5_goBy q3.2 o 32).bind fun q4 =>
          if q4.1 = 0 then
            some (0, q4.2)
          else
            (r_X5_learnEither_d0 q4.2 o).bind fun q5 =>
            if q5.1 = 0 then
              some (0, q5.2)
            else
              if q1.1 = 0 then
                (r_X5_add q5.2 o 21 q3.1).bind fun q7 =>
                if q7.1 = 0 then
                  some (0, q7.2)
                else
                  some (1, q7.2)
              else
                (r_X5_add q5.2 o 21 (-q3.1)).bind fun q6 =>
                if q6.1 = 0 then
                  some (0, q6.2)
                else
                  some (1, q6.2)
      else
        some (0, q3.2)
set_option maxRecDepth 20000 in
set_option maxHeartbeats 4000000 in
theorem e_X5_learnClause_40 (d : Nat) (S : St) (hs : List Hr) (v : Int32 × St) (hr : r_X5_learnClause S 40 = some v) (P : Option Value → Hp → Prop) (h : P (some (.int v.1)) (st v.2 hs)) : Ev (d + 18) ix_X5_learnClause 0 0 [.ref 40] (st S hs) P := by
  refine Ev.intro (M := mi_X5_learnClause) rfl (Nat.le_of_ble_eq_true rfl) ?_
  unfold r_X5_learnClause at hr
  refine Wp.stepsG 2 (fun cal X P' hk hX hP => ?_)
  show kcall cal ix_X5_goByWord [.ref 40] (st S hs) [] 0 0 (0, 0) (fun v σ' c' m' => X (4, [some (.ref 40), none, none], v.toList ++ [], σ', c', m'))
  obtain ⟨q1, hq1, hr⟩ := bd_some hr
  refine kcall0 rfl (hk _ _ _ _ _ _ (e_X5_goByWord_40 (d + 14) S hs q1 hq1 _ ?_))
  show X (4, [some (.ref 40), none, none], [.int q1.1], st q1.2 hs, 0, 0)
  refine hX _ ?_
  clear hP hX hk P' X cal
  refine Wp.stepsG 3 (fun cal X P' hk hX hP => ?_)
  show (q1.1 < 0 → X (18, [some (.ref 40), some (.int q1.1), none], [], st q1.2 hs, 0, 0)) ∧ (¬ q1.1 < 0 → X (9, [some (.ref 40), some (.int q1.1), none], [], st q1.2 hs, 0, 0))
  refine ⟨fun hc => hX _ ?_, fun hc => hX _ ?_⟩
  · clear hP hX hk P' X cal
    rw [if_pos hc] at hr
    have hr := Option.some.inj hr
    subst hr
    refine Wp.stepsG 2 (fun cal X P' hk hX hP => ?_)
    exact ⟨Or.inl rfl, hP _ _ h⟩
  · clear hP hX hk P' X cal
    rw [if_neg hc] at hr
    refine Wp.stepsG 3 (fun cal X P' hk hX hP => ?_)
    show kcall cal ix_X5_goBy [.ref 40, .int 32] (st q1.2 hs) [] 0 0 (0, 0) (fun v σ' c' m' => X (15, [some (.ref 40), some (.int q1.1), none], v.toList ++ [], σ', c', m'))
    obtain ⟨q2, hq2, hr⟩ := bd_some hr
    refine kcall0 rfl (hk _ _ _ _ _ _ (e_X5_goBy_40 (d + 15) q1.2 hs 32 q2 hq2 _ ?_))
    show X (15, [some (.ref 40), some (.int q1.1), none], [.int q2.1], st q2.2 hs, 0, 0)
    refine hX _ ?_
    clear hP hX hk P' X cal
    refine Wp.stepsG 1 (fun cal X P' hk hX hP => ?_)
    show (¬ q2.1 = 0 → X (20, [some (.ref 40), some (.int q1.1), none], [], st q2.2 hs, 0, 0)) ∧ (q2.1 = 0 → X (18, [some (.ref 40), some (.int q1.1), none], [], st q2.2 hs, 0, 0))
    refine ⟨fun hc => hX _ ?_, fun hc => hX _ ?_⟩
    · clear hP hX hk P' X cal
      rw [if_neg hc] at hr
      refine Wp.stepsG 2 (fun cal X P' hk hX hP => ?_)
      show kcall cal ix_X5_goByNumber [.ref 40] (st q2.2 hs) [] 0 0 (0, 0) (fun v σ' c' m' => X (24, [some (.ref 40), some (.int q1.1), none], v.toList ++ [], σ', c', m'))
      obtain ⟨q3, hq3, hr⟩ := bd_some hr
      refine kcall0 rfl (hk _ _ _ _ _ _ (e_X5_goByNumber_40 (d + 15) q2.2 hs q3 hq3 _ ?_))
      show X (24, [some (.ref 40), some (.int q1.1), none], [.int q3.1], st q3.2 hs, 0, 0)
      refine hX _ ?_
      clear hP hX hk P' X cal
      refine Wp.stepsG 3 (fun cal X P' hk hX hP => ?_)
      show (0 ≤ q3.1 → X (31, [some (.ref 40), some (.int q1.1), some (.int q3.1)], [], st q3.2 hs, 0, 0)) ∧ (¬ 0 ≤ q3.1 → X (29, [some (.ref 40), some (.int q1.1), some (.int q3.1)], [], st q3.2 hs, 0, 0))
      refine ⟨fun hc => hX _ ?_, fun hc => hX _ ?_⟩
      · clear hP hX hk P' X cal
        rw [if_pos hc] at hr
        refine Wp.stepsG 2 (fun cal X P' hk hX hP => ?_)
        show (q1.1 = 2 → X (60, [some (.ref 40), some (.int q1.1), some (.int q3.1)], [], st q3.2 hs, 0, 0)) ∧ (¬ q1.1 = 2 → (q1.1 = 3 → X (67, [some (.ref 40), some (.int q1.1), some (.int q3.1)], [], st q3.2 hs, 0, 0)) ∧ (¬ q1.1 = 3 → X (74, [some (.ref 40), some (.int q1.1), some (.int q3.1)], [], st q3.2 hs, 0, 0)))
        refine ⟨fun hc => hX _ ?_, fun hc => ?_⟩
        · clear hP hX hk P' X cal
          rw [if_pos hc] at hr
          have hr := Option.some.inj hr
          subst hr
          refine Wp.stepsG 5 (fun cal X P' hk hX hP => ?_)
          exact ⟨Or.inr rfl, hP _ _ h⟩
        · rw [if_neg hc] at hr
          refine ⟨fun hc => hX _ ?_, fun hc => hX _ ?_⟩
          · clear hP hX hk P' X cal
            rw [if_pos hc] at hr
            have hr := Option.some.inj hr
            subst hr
            refine Wp.stepsG 5 (fun cal X P' hk hX hP => ?_)
            exact ⟨Or.inr rfl, hP _ _ h⟩
          · rw [if_neg hc] at hr
            clear hP hX hk P' X cal
            refine Wp.stepsG 3 (fun cal X P' hk hX hP => ?_)
            show kcall cal ix_X5_goBy [.ref 40, .int 32] (st q3.2 hs) [] 0 0 (0, 0) (fun v σ' c' m' => X (80, [some (.ref 40), some (.int q1.1), some (.int q3.1)], v.toList ++ [], σ', c', m'))
            obtain ⟨q4, hq4, hr⟩ := bd_some hr
            refine kcall0 rfl (hk _ _ _ _ _ _ (e_X5_goBy_40 (d + 15) q3.2 hs 32 q4 hq4 _ ?_))
            show X (80, [some (.ref 40), some (.int q1.1), some (.int q3.1)], [.int q4.1], st q4.2 hs, 0, 0)
            refine hX _ ?_
            clear hP hX hk P' X cal
            refine Wp.stepsG 1 (fun cal X P' hk hX hP => ?_)
            show (q4.1 = 0 → X (114, [some (.ref 40), some (.int q1.1), some (.int q3.1)], [], st q4.2 hs, 0, 0)) ∧ (¬ q4.1 = 0 → X (83, [some (.ref 40), some (.int q1.1), some (.int q3.1)], [], st q4.2 hs, 0, 0))
            refine ⟨fun hc => hX _ ?_, fun hc => hX _ ?_⟩
            · clear hP hX hk P' X cal
              rw [if_pos hc] at hr
              have hr := Option.some.inj hr
              subst hr
              refine Wp.stepsG 2 (fun cal X P' hk hX hP => ?_)
              exact ⟨Or.inl rfl, hP _ _ h⟩
            · clear hP hX hk P' X cal
              rw [if_neg hc] at hr
              refine Wp.stepsG 3 (fun cal X P' hk hX hP => ?_)
              show kcall cal ix_X5_learnEither [.ref 40, .int 0] (st q4.2 hs) [] 0 0 (0, 0) (fun v σ' c' m' => X (88, [some (.ref 40), some (.int q1.1), some (.int q3.1)], v.toList ++ [], σ', c', m'))
              obtain ⟨q5, hq5, hr⟩ := bd_some hr
              refine kcall0 rfl (hk _ _ _ _ _ _ (e_X5_learnEither_d0_40 (d + 0) q4.2 hs q5 hq5 _ ?_))
              show X (88, [some (.ref 40), some (.int q1.1), some (.int q3.1)], [.int q5.1], st q5.2 hs, 0, 0)
              refine hX _ ?_
              clear hP hX hk P' X cal
              refine Wp.stepsG 1 (fun cal X P' hk hX hP => ?_)
              show (q5.1 = 0 → X (114, [some (.ref 40), some (.int q1.1), some (.int q3.1)], [], st q5.2 hs, 0, 0)) ∧ (¬ q5.1 = 0 → X (91, [some (.ref 40), some (.int q1.1), some (.int q3.1)], [], st q5.2 hs, 0, 0))
              refine ⟨fun hc => hX _ ?_, fun hc => hX _ ?_⟩
              · clear hP hX hk P' X cal
                rw [if_pos hc] at hr
                have hr := Option.some.inj hr
                subst hr
                refine Wp.stepsG 2 (fun cal X P' hk hX hP => ?_)
                exact ⟨Or.inl rfl, hP _ _ h⟩
              · clear hP hX hk P' X cal
                rw [if_neg hc] at hr
                refine Wp.stepsG 4 (fun cal X P' hk hX hP => ?_)
                show (¬ q1.1 = 0 → X (102, [some (.ref 40), some (.int q1.1), some (.int q3.1)], [.int 21, .ref 40], st q5.2 hs, 0, 0)) ∧ (q1.1 = 0 → X (98, [some (.ref 40), some (.int q1.1), some (.int q3.1)], [.int 21, .ref 40], st q5.2 hs, 0, 0))
                refine ⟨fun hc => hX _ ?_, fun hc => hX _ ?_⟩
                · clear hP hX hk P' X cal
                  rw [if_neg hc] at hr
                  refine Wp.stepsG 3 (fun cal X P' hk hX hP => ?_)
                  show kcall cal ix_X5_add [.ref 40, .int 21, .int (-q3.1)] (st q5.2 hs) [] 0 0 (0, 0) (fun v σ' c' m' => X (107, [some (.ref 40), some (.int q1.1), some (.int q3.1)], v.toList ++ [], σ', c', m'))
                  obtain ⟨q6, hq6, hr⟩ := bd_some hr
                  refine kcall0 rfl (hk _ _ _ _ _ _ (e_X5_add_40 (d + 16) q5.2 hs 21 (-q3.1) q6 hq6 _ ?_))
                  show X (107, [some (.ref 40), some (.int q1.1), some (.int q3.1)], [.int q6.1], st q6.2 hs, 0, 0)
                  refine hX _ ?_
                  clear hP hX hk P' X cal
                  refine Wp.stepsG 1 (fun cal X P' hk hX hP => ?_)
                  show (q6.1 = 0 → X (114, [some (.ref 40), some (.int q1.1), some (.int q3.1)], [], st q6.2 hs, 0, 0)) ∧ (¬ q6.1 = 0 → X (110, [some (.ref 40), some (.int q1.1), some (.int q3.1)], [], st q6.2 hs, 0, 0))
                  refine ⟨fun hc => hX _ ?_, fun hc => hX _ ?_⟩
                  · clear hP hX hk P' X cal
                    rw [if_pos hc] at hr
                    have hr := Option.some.inj hr
                    subst hr
                    refine Wp.stepsG 2 (fun cal X P' hk hX hP => ?_)
                    exact ⟨Or.inl rfl, hP _ _ h⟩
                  · clear hP hX hk P' X cal
                    rw [if_neg hc] at hr
                    have hr := Option.some.inj hr
                    subst hr
                    refine Wp.stepsG 3 (fun cal X P' hk hX hP => ?_)
                    exact ⟨Or.inr rfl, hP _ _ h⟩
                · clear hP hX hk P' X cal
                  rw [if_pos hc] at hr
                  refine Wp.stepsG 3 (fun cal X P' hk hX hP => ?_)
                  show kcall cal ix_X5_add [.ref 40, .int 21, .int q3.1] (st q5.2 hs) [] 0 0 (0, 0) (fun v σ' c' m' => X (107, [some (.ref 40), some (.int q1.1), some (.int q3.1)], v.toList ++ [], σ', c', m'))
                  obtain ⟨q7, hq7, hr⟩ := bd_some hr
                  refine kcall0 rfl (hk _ _ _ _ _ _ (e_X5_add_40 (d + 16) q5.2 hs 21 q3.1 q7 hq7 _ ?_))
                  show X (107, [some (.ref 40), some (.int q1.1), some (.int q3.1)], [.int q7.1], st q7.2 hs, 0, 0)
                  refine hX _ ?_
                  clear hP hX hk P' X cal
                  refine Wp.stepsG 1 (fun cal X P' hk hX hP => ?_)
                  show (q7.1 = 0 → X (114, [some (.ref 40), some (.int q1.1), some (.int q3.1)], [], st q7.2 hs, 0, 0)) ∧ (¬ q7.1 = 0 → X (110, [some (.ref 40), some (.int q1.1), some (.int q3.1)], [], st q7.2 hs, 0, 0))
                  refine ⟨fun hc => hX _ ?_, fun hc => hX _ ?_⟩
                  · clear hP hX hk P' X cal
                    rw [if_pos hc] at hr
                    have hr := Option.some.inj hr
                    subst hr
                    refine Wp.stepsG 2 (fun cal X P' hk hX hP => ?_)
                    exact ⟨Or.inl rfl, hP _ _ h⟩
                  · clear hP hX hk P' X cal
                    rw [if_neg hc] at hr
                    have hr := Option.some.inj hr
                    subst hr
                    refine Wp.stepsG 3 (fun cal X P' hk hX hP => ?_)
                    exact ⟨Or.inr rfl, hP _ _ h⟩
      · clear hP hX hk P' X cal
        rw [if_neg hc] at hr
        have hr := Option.some.inj hr
        subst hr
        refine Wp.stepsG 2 (fun cal X P' hk hX hP => ?_)
        exact ⟨Or.inl rfl, hP _ _ h⟩
    · clear hP hX hk P' X cal
      rw [if_pos hc] at hr
      have hr := Option.some.inj hr
      subst hr
      refine Wp.stepsG 2 (fun cal X P' hk hX hP => ?_)
      exact ⟨Or.inl rfl, hP _ _ h⟩
def lp_X5_learn_28_38 (o : Nat) : Nat → Int32 → St → Option (Nat × St)
  | 0, _, _ => none
  | n + 1, v3, S =>
    if 10 < v3 then
      some (2, S)
    else
      (r_X5_learnClause S o).bind fun q1 =>
      if q1.1 = 0 then
        some (2, q1.2)
      else
        if (q1.2.1 o 7) = (q1.2.1 o 6) then
          some (0, q1.2)
        else
          if v3 = 10 then
            some (1, q1.2)
          else
            (r_X5_goBy q1.2 o 59).bind fun q2 =>
            if q2.1 = 0 then
              some (1, q2.2)
            else
              lp_X5_learn_28_38 o n (v3 + 1) q2.2
def r_X5_learn_28 (S : St) (o : Nat) (a2 : Int32) : Option (Int32 × St) :=
  (lp_X5_learn_28_38 o 4000 1 (sI (sI (sI (sI (sI (sR S o 5 (some 28)) o 6 (if 100 < a2 then 100 else a2)) o 7 0) o 2 0) o 3 20) o 4 5)).bind fun q3 =>
  if q3.1 = 0 then
    some ((-1), q3.2)
  else
  if q3.1 = 1 then
    some (q3.2.1 o 7, q3.2)
  else
    some (q3.2.1 o 7, q3.2)
set_option maxRecDepth 20000 in
set_option maxHeartbeats 4000000 in
theorem e_lp_X5_learn_28_38_40 (d : Nat) (hs : List Hr) (P : Option Value → Hp → Prop) : ∀ (n : Nat) (v3 : Int32) (S : St) (q : Nat × St), lp_X5_learn_28_38 40 n v3 S = some q → (q.1 = 0 → WM mi_X5_learn (d + 18) P 62 [some (.ref 40), none, none, none] [] (st q.2 hs)) ∧ (q.1 = 1 → WM mi_X5_learn (d + 18) P 79 [some (.ref 40), none, none, none] [] (st q.2 hs)) ∧ (q.1 = 2 → WM mi_X5_learn (d + 18) P 90 [some (.ref 40), none, none, none] [] (st q.2 hs)) → WM mi_X5_learn (d + 18) P 38 [some (.ref 40), none, none, some (.int v3)] [] (st S hs) := by
  intro n
  induction n with
  | zero =>
    intro v3 S q hl
    cases hl
  | succ n ih =>
    intro v3 S q hl ct
    rw [lp_X5_learn_28_38] at hl
    refine Wp.stepsG 3 (fun cal X P' hk hX hP => ?_)
    show (10 < v3 → X (90, [some (.ref 40), none, none, some (.int v3)], [], st S hs, 0, 0)) ∧ (¬ 10 < v3 → X (44, [some (.ref 40), none, none, some (.int v3)], [], st S hs, 0, 0))
    refine ⟨fun hc => hX _ ?_, fun hc => hX _ ?_⟩
    · clear hP hX hk P' X cal
      rw [if_pos hc] at hl
      have hl := Option.some.inj hl
      subst hl
      exact Wp.weak (leL.k (leL.k (leL.k (leL.n leL.z)))) (ct.2.2 rfl)
    · clear hP hX hk P' X cal
      rw [if_neg hc] at hl
      refine Wp.stepsG 2 (fun cal X P' hk hX hP => ?_)
      show kcall cal ix_X5_learnClause [.ref 40] (st S hs) [] 0 0 (0, 0) (fun v σ' c' m' => X (48, [some (.ref 40), none, none, some (.int v3)], v.toList ++ [], σ', c', m'))
      obtain ⟨q1, hq1, hl⟩ := bd_some hl
      refine kcall0 rfl (hk _ _ _ _ _ _ (e_X5_learnClause_40 (d + 0) S hs q1 hq1 _ ?_))
      show X (48, [some (.ref 40), none, none, some (.int v3)], [.int q1.1], st q1.2 hs, 0, 0)
      refine hX _ ?_
      clear hP hX hk P' X cal
      refine Wp.stepsG 1 (fun cal X P' hk hX hP => ?_)
      show (q1.1 = 0 → X (90, [some (.ref 40), none, none, some (.int v3)], [], st q1.2 hs, 0, 0)) ∧ (¬ q1.1 = 0 → X (51, [some (.ref 40), none, none, some (.int v3)], [], st q1.2 hs, 0, 0))
      refine ⟨fun hc => hX _ ?_, fun hc => hX _ ?_⟩
      · clear hP hX hk P' X cal
        rw [if_pos hc] at hl
        have hl := Option.some.inj hl
        subst hl
        exact Wp.weak (leL.k (leL.k (leL.k (leL.n leL.z)))) (ct.2.2 rfl)
      · clear hP hX hk P' X cal
        rw [if_neg hc] at hl
        refine Wp.stepsG 5 (fun cal X P' hk hX hP => ?_)
        show (¬ (q1.2.1 40 7) = (q1.2.1 40 6) → X (64, [some (.ref 40), none, none, some (.int v3)], [], st q1.2 hs, 0, 0)) ∧ ((q1.2.1 40 7) = (q1.2.1 40 6) → X (62, [some (.ref 40), none, none, some (.int v3)], [], st q1.2 hs, 0, 0))
        refine ⟨fun hc => hX _ ?_, fun hc => hX _ ?_⟩
        · clear hP hX hk P' X cal
          rw [if_neg hc] at hl
          refine Wp.stepsG 3 (fun cal X P' hk hX hP => ?_)
          show (v3 = 10 → X (79, [some (.ref 40), none, none, some (.int v3)], [], st q1.2 hs, 0, 0)) ∧ (¬ v3 = 10 → X (70, [some (.ref 40), none, none, some (.int v3)], [], st q1.2 hs, 0, 0))
          refine ⟨fun hc => hX _ ?_, fun hc => hX _ ?_⟩
          · clear hP hX hk P' X cal
            rw [if_pos hc] at hl
            have hl := Option.some.inj hl
            subst hl
            exact Wp.weak (leL.k (leL.k (leL.k (leL.n leL.z)))) (ct.2.1 rfl)
          · clear hP hX hk P' X cal
            rw [if_neg hc] at hl
            refine Wp.stepsG 3 (fun cal X P' hk hX hP => ?_)
            show kcall cal ix_X5_goBy [.ref 40, .int 59] (st q1.2 hs) [] 0 0 (0, 0) (fun v σ' c' m' => X (76, [some (.ref 40), none, none, some (.int v3)], v.toList ++ [], σ', c', m'))
            obtain ⟨q2, hq2, hl⟩ := bd_some hl
            refine kcall0 rfl (hk _ _ _ _ _ _ (e_X5_goBy_40 (d + 16) q1.2 hs 59 q2 hq2 _ ?_))
            show X (76, [some (.ref 40), none, none, some (.int v3)], [.int q2.1], st q2.2 hs, 0, 0)
            refine hX _ ?_
            clear hP hX hk P' X cal
            refine Wp.stepsG 1 (fun cal X P' hk hX hP => ?_)
            show (¬ q2.1 = 0 → X (84, [some (.ref 40), none, none, some (.int v3)], [], st q2.2 hs, 0, 0)) ∧ (q2.1 = 0 → X (79, [some (.ref 40), none, none, some (.int v3)], [], st q2.2 hs, 0, 0))
            refine ⟨fun hc => hX _ ?_, fun hc => hX _ ?_⟩
            · clear hP hX hk P' X cal
              rw [if_neg hc] at hl
              refine Wp.stepsG 2 (fun cal X P' hk hX hP => ?_)
              show X (38, [some (.ref 40), none, none, some (.int (v3 + 1))], [], st q2.2 hs, 0, 0)
              refine hX _ ?_
              exact (ih (v3 + 1) q2.2 q hl ct)
            · clear hP hX hk P' X cal
              rw [if_pos hc] at hl
              have hl := Option.some.inj hl
              subst hl
              exact Wp.weak (leL.k (leL.k (leL.k (leL.n leL.z)))) (ct.2.1 rfl)
        · clear hP hX hk P' X cal
          rw [if_pos hc] at hl
          have hl := Option.some.inj hl
          subst hl
          exact Wp.weak (leL.k (leL.k (leL.k (leL.n leL.z)))) (ct.1 rfl)
set_option maxRecDepth 20000 in
set_option maxHeartbeats 4000000 in
theorem e_X5_learn_28_40 (d : Nat) (S : St) (hs : List Hr) (a2 : Int32) (v : Int32 × St) (hr : r_X5_learn_28 S 40 a2 = some v) (P : Option Value → Hp → Prop) (h : P (some (.int v.1)) (st v.2 hs)) : Ev (d + 19) ix_X5_learn 0 0 [.ref 40, .ref 28, .int a2] (st S hs) P := by
  refine Ev.intro (M := mi_X5_learn) rfl (Nat.le_of_ble_eq_true rfl) ?_
  unfold r_X5_learn_28 at hr
  refine Wp.stepsG 23 (fun cal X P' hk hX hP => ?_)
  show X (38, [some (.ref 40), some (.ref 28), some (.int a2), some (.int 1)], [], st (sI (sI (sI (sI (sI (sR S 40 5 (some 28)) 40 6 (if 100 < a2 then 100 else a2)) 40 7 0) 40 2 0) 40 3 20) 40 4 5) hs, 0, 0)
  refine hX _ ?_
  clear hP hX hk P' X cal
  obtain ⟨q3, hq3, hr⟩ := bd_some hr
  refine Wp.weak (leL.k (leL.n (leL.n (leL.k leL.z)))) (e_lp_X5_learn_28_38_40 d hs P _ 1 (sI (sI (sI (sI (sI (sR S 40 5 (some 28)) 40 6 (if 100 < a2 then 100 else a2)) 40 7 0) 40 2 0) 40 3 20) 40 4 5) q3 hq3 ?_)
  refine ⟨fun hc => ?_, fun hc => ?_, fun hc => ?_⟩
  · have hcc := hc
    rw [if_pos hcc] at hr
    have hr := Option.some.inj hr
    subst hr
    refine Wp.stepsG 2 (fun cal X P' hk hX hP => ?_)
    exact hP _ _ h
  · have hcc := hc
    rw [if_neg (fun z => by rw [z] at hcc; exact absurd hcc (by decide))] at hr
    rw [if_pos hcc] at hr
    have hr := Option.some.inj hr
    subst hr
    refine Wp.stepsG 3 (fun cal X P' hk hX hP => ?_)
    exact hP _ _ h
  · have hcc := hc
    rw [if_neg (fun z => by rw [z] at hcc; exact absurd hcc (by decide))] at hr
    rw [if_neg (fun z => by rw [z] at hcc; exact absurd hcc (by decide))] at hr
    have hr := Option.some.inj hr
    subst hr
    refine Wp.stepsG 3 (fun cal X P' hk hX hP => ?_)
    exact hP _ _ h
set_option maxRecDepth 20000 in
set_option maxHeartbeats 4000000 in
theorem e_X5_signAt_44 (d : Nat) (S : St) (hs : List Hr) (a1 : Int32) (v : Int32) (hr : r_X5_signAt S 44 a1 = some v) (P : Option Value → Hp → Prop) (h : P (some (.int v)) (st S hs)) : Ev (d + 1) ix_X5_signAt 0 0 [.ref 44, .int a1] (st S hs) P := by
  refine Ev.intro (M := mi_X5_signAt) rfl (Nat.le_of_ble_eq_true rfl) ?_
  unfold r_X5_signAt at hr
  refine Wp.stepsG 4 (fun cal X P' hk hX hP => ?_)
  show ((S.1 44 6) ≤ a1 → X (17, [some (.ref 44), some (.int a1)], [], st S hs, 0, 0)) ∧ (¬ (S.1 44 6) ≤ a1 → X (8, [some (.ref 44), some (.int a1)], [], st S hs, 0, 0))
  refine ⟨fun hc => hX _ ?_, fun hc => hX _ ?_⟩
  · clear hP hX hk P' X cal
    rw [if_pos hc] at hr
    have hr := Option.some.inj hr
    subst hr
    refine Wp.stepsG 2 (fun cal X P' hk hX hP => ?_)
    exact hP _ _ h
  · clear hP hX hk P' X cal
    rw [if_neg hc] at hr
    refine Wp.stepsG 2 (fun cal X P' hk hX hP => ?_)
    show X (12, [some (.ref 44), some (.int a1)], [va_rf (S.2.2 44 5)], st S hs, 0, 0)
    refine hX _ ?_
    clear hP hX hk P' X cal
    obtain ⟨hg, hr⟩ := gd_some hr
    rw [hg]
    refine Wp.stepsG 2 (fun cal X P' hk hX hP => ?_)
    show vp_in a1 100 ∧ X (14, [some (.ref 44), some (.int a1)], [.int ((S.1 28) a1.toNatClampNeg)], st S hs, 0, 0)
    obtain ⟨hg, hr⟩ := gd_some hr
    refine ⟨hg, hX _ ?_⟩
    clear hP hX hk P' X cal
    have hr := Option.some.inj hr
    subst hr
    refine Wp.stepsG 2 (fun cal X P' hk hX hP => ?_)
    exact hP _ _ h
set_option maxRecDepth 20000 in
set_option maxHeartbeats 4000000 in
theorem e_lp_X5_alike_3_2_44 (d : Nat) (hs : List Hr) (P : Option Value → Hp → Prop) (S : St) : ∀ (n : Nat) (v2 : Int32) (q : Int32), lp_X5_alike_3_2 S 44 n v2 = some q → (WM mi_X5_alike (d + 1) P 34 [some (.ref 44), some (.ref 3), some (.int q)] [] (st S hs)) → WM mi_X5_alike (d + 1) P 2 [some (.ref 44), some (.ref 3), some (.int v2)] [] (st S hs) := by
  intro n
  induction n with
  | zero =>
    intro v2 q hl
    cases hl
  | succ n ih =>
    intro v2 q hl ct
    rw [lp_X5_alike_3_2] at hl
    refine Wp.stepsG 4 (fun cal X P' hk hX hP => ?_)
    show (3 ≤ v2 → X (34, [some (.ref 44), some (.ref 3), some (.int v2)], [], st S hs, 0, 0)) ∧ (¬ 3 ≤ v2 → X (10, [some (.ref 44), some (.ref 3), some (.int v2)], [], st S hs, 0, 0))
    refine ⟨fun hc => hX _ ?_, fun hc => hX _ ?_⟩
    · clear hP hX hk P' X cal
      rw [if_pos hc] at hl
      have hl := Option.some.inj hl
      subst hl
      exact (ct)
    · clear hP hX hk P' X cal
      rw [if_neg hc] at hl
      refine Wp.stepsG 6 (fun cal X P' hk hX hP => ?_)
      show kcall cal ix_X5_signAt [.ref 44, .int ((S.1 44 7) + v2)] (st S hs) [] 0 0 (0, 0) (fun v σ' c' m' => X (20, [some (.ref 44), some (.ref 3), some (.int v2)], v.toList ++ [], σ', c', m'))
      obtain ⟨q1, hq1, hl⟩ := bd_some hl
      refine kcall0 rfl (hk _ _ _ _ _ _ (e_X5_signAt_44 (d + 0) S hs ((S.1 44 7) + v2) q1 hq1 _ ?_))
      show X (20, [some (.ref 44), some (.ref 3), some (.int v2)], [.int q1], st S hs, 0, 0)
      refine hX _ ?_
      clear hP hX hk P' X cal
      refine Wp.stepsG 3 (fun cal X P' hk hX hP => ?_)
      show vp_in v2 3 ∧ X (25, [some (.ref 44), some (.ref 3), some (.int v2)], [.int (cAt (bAt strB 3) v2.toNatClampNeg), .int q1], st S hs, 0, 0)
      obtain ⟨hg, hl⟩ := gd_some hl
      refine ⟨hg, hX _ ?_⟩
      clear hP hX hk P' X cal
      refine Wp.stepsG 1 (fun cal X P' hk hX hP => ?_)
      show (¬ q1 = (cAt (bAt strB 3) v2.toNatClampNeg) → X (34, [some (.ref 44), some (.ref 3), some (.int v2)], [], st S hs, 0, 0)) ∧ (q1 = (cAt (bAt strB 3) v2.toNatClampNeg) → X (28, [some (.ref 44), some (.ref 3), some (.int v2)], [], st S hs, 0, 0))
      refine ⟨fun hc => hX _ ?_, fun hc => hX _ ?_⟩
      · clear hP hX hk P' X cal
        rw [if_neg hc] at hl
        have hl := Option.some.inj hl
        subst hl
        exact (ct)
      · clear hP hX hk P' X cal
        rw [if_pos hc] at hl
        refine Wp.stepsG 2 (fun cal X P' hk hX hP => ?_)
        show X (2, [some (.ref 44), some (.ref 3), some (.int (v2 + 1))], [], st S hs, 0, 0)
        refine hX _ ?_
        exact (ih (v2 + 1) q hl ct)
set_option maxRecDepth 20000 in
set_option maxHeartbeats 4000000 in
theorem e_X5_alike_3_44 (d : Nat) (S : St) (hs : List Hr) (v : Int32) (hr : r_X5_alike_3 S 44 = some v) (P : Option Value → Hp → Prop) (h : P (some (.int v)) (st S hs)) : Ev (d + 2) ix_X5_alike 0 0 [.ref 44, .ref 3] (st S hs) P := by
  refine Ev.intro (M := mi_X5_alike) rfl (Nat.le_of_ble_eq_true rfl) ?_
  unfold r_X5_alike_3 at hr
  refine Wp.stepsG 2 (fun cal X P' hk hX hP => ?_)
  show X (2, [some (.ref 44), some (.ref 3), some (.int 0)], [], st S hs, 0, 0)
  refine hX _ ?_
  clear hP hX hk P' X cal
  obtain ⟨q2, hq2, hr⟩ := bd_some hr
  refine (e_lp_X5_alike_3_2_44 d hs P S _ 0 q2 hq2 ?_)
  have hr := Option.some.inj hr
  subst hr
  refine Wp.stepsG 2 (fun cal X P' hk hX hP => ?_)
  exact hP _ _ h
set_option maxRecDepth 20000 in
set_option maxHeartbeats 4000000 in
theorem e_lp_X5_alike_4_2_44 (d : Nat) (hs : List Hr) (P : Option Value → Hp → Prop) (S : St) : ∀ (n : Nat) (v2 : Int32) (q : Int32), lp_X5_alike_4_2 S 44 n v2 = some q → (WM mi_X5_alike (d + 1) P 34 [some (.ref 44), some (.ref 4), some (.int q)] [] (st S hs)) → WM mi_X5_alike (d + 1) P 2 [some (.ref 44), some (.ref 4), some (.int v2)] [] (st S hs) := by
  intro n
  induction n with
  | zero =>
    intro v2 q hl
    cases hl
  | succ n ih =>
    intro v2 q hl ct
    rw [lp_X5_alike_4_2] at hl
    refine Wp.stepsG 4 (fun cal X P' hk hX hP => ?_)
    show (4 ≤ v2 → X (34, [some (.ref 44), some (.ref 4), some (.int v2)], [], st S hs, 0, 0)) ∧ (¬ 4 ≤ v2 → X (10, [some (.ref 44), some (.ref 4), some (.int v2)], [], st S hs, 0, 0))
    refine ⟨fun hc => hX _ ?_, fun hc => hX _ ?_⟩
    · clear hP hX hk P' X cal
      rw [if_pos hc] at hl
      have hl := Option.some.inj hl
      subst hl
      exact (ct)
    · clear hP hX hk P' X cal
      rw [if_neg hc] at hl
      refine Wp.stepsG 6 (fun cal X P' hk hX hP => ?_)
      show kcall cal ix_X5_signAt [.ref 44, .int ((S.1 44 7) + v2)] (st S hs) [] 0 0 (0, 0) (fun v σ' c' m' => X (20, [some (.ref 44), some (.ref 4), some (.int v2)], v.toList ++ [], σ', c', m'))
      obtain ⟨q1, hq1, hl⟩ := bd_some hl
      refine kcall0 rfl (hk _ _ _ _ _ _ (e_X5_signAt_44 (d + 0) S hs ((S.1 44 7) + v2) q1 hq1 _ ?_))
      show X (20, [some (.ref 44), some (.ref 4), some (.int v2)], [.int q1], st S hs, 0, 0)
      refine hX _ ?_
      clear hP hX hk P' X cal
      refine Wp.stepsG 3 (fun cal X P' hk hX hP => ?_)
      show vp_in v2 4 ∧ X (25, [some (.ref 44), some (.ref 4), some (.int v2)], [.int (cAt (bAt strB 4) v2.toNatClampNeg), .int q1], st S hs, 0, 0)
      obtain ⟨hg, hl⟩ := gd_some hl
      refine ⟨hg, hX _ ?_⟩
      clear hP hX hk P' X cal
      refine Wp.stepsG 1 (fun cal X P' hk hX hP => ?_)
      show (¬ q1 = (cAt (bAt strB 4) v2.toNatClampNeg) → X (34, [some (.ref 44), some (.ref 4), some (.int v2)], [], st S hs, 0, 0)) ∧ (q1 = (cAt (bAt strB 4) v2.toNatClampNeg) → X (28, [some (.ref 44), some (.ref 4), some (.int v2)], [], st S hs, 0, 0))
      refine ⟨fun hc => hX _ ?_, fun hc => hX _ ?_⟩
      · clear hP hX hk P' X cal
        rw [if_neg hc] at hl
        have hl := Option.some.inj hl
        subst hl
        exact (ct)
      · clear hP hX hk P' X cal
        rw [if_pos hc] at hl
        refine Wp.stepsG 2 (fun cal X P' hk hX hP => ?_)
        show X (2, [some (.ref 44), some (.ref 4), some (.int (v2 + 1))], [], st S hs, 0, 0)
        refine hX _ ?_
        exact (ih (v2 + 1) q hl ct)
set_option maxRecDepth 20000 in
set_option maxHeartbeats 4000000 in
theorem e_X5_alike_4_44 (d : Nat) (S : St) (hs : List Hr) (v : Int32) (hr : r_X5_alike_4 S 44 = some v) (P : Option Value → Hp → Prop) (h : P (some (.int v)) (st S hs)) : Ev (d + 2) ix_X5_alike 0 0 [.ref 44, .ref 4] (st S hs) P := by
  refine Ev.intro (M := mi_X5_alike) rfl (Nat.le_of_ble_eq_true rfl) ?_
  unfold r_X5_alike_4 at hr
  refine Wp.stepsG 2 (fun cal X P' hk hX hP => ?_)
  show X (2, [some (.ref 44), some (.ref 4), some (.int 0)], [], st S hs, 0, 0)
  refine hX _ ?_
  clear hP hX hk P' X cal
  obtain ⟨q2, hq2, hr⟩ := bd_some hr
  refine (e_lp_X5_alike_4_2_44 d hs P S _ 0 q2 hq2 ?_)
  have hr := Option.some.inj hr
  subst hr
  refine Wp.stepsG 2 (fun cal X P' hk hX hP => ?_)
  exact hP _ _ h
set_option maxRecDepth 20000 in
set_option maxHeartbeats 4000000 in
theorem e_lp_X5_alike_5_2_44 (d : Nat) (hs : List Hr) (P : Option Value → Hp → Prop) (S : St) : ∀ (n : Nat) (v2 : Int32) (q : Int32), lp_X5_alike_5_2 S 44 n v2 = some q → (WM mi_X5_alike (d + 1) P 34 [some (.ref 44), some (.ref 5), some (.int q)] [] (st S hs)) → WM mi_X5_alike (d + 1) P 2 [some (.ref 44), some (.ref 5), some (.int v2)] [] (st S hs) := by
  intro n
  induction n with
  | zero =>
    intro v2 q hl
    cases hl
  | succ n ih =>
    intro v2 q hl ct
    rw [lp_X5_alike_5_2] at hl
    refine Wp.stepsG 4 (fun cal X P' hk hX hP => ?_)
    show (4 ≤ v2 → X (34, [some (.ref 44), some (.ref 5), some (.int v2)], [], st S hs, 0, 0)) ∧ (¬ 4 ≤ v2 → X (10, [some (.ref 44), some (.ref 5), some (.int v2)], [], st S hs, 0, 0))
    refine ⟨fun hc => hX _ ?_, fun hc => hX _ ?_⟩
    · clear hP hX hk P' X cal
      rw [if_pos hc] at hl
      have hl := Option.some.inj hl
      subst hl
      exact (ct)
    · clear hP hX hk P' X cal
      rw [if_neg hc] at hl
      refine Wp.stepsG 6 (fun cal X P' hk hX hP => ?_)
      show kcall cal ix_X5_signAt [.ref 44, .int ((S.1 44 7) + v2)] (st S hs) [] 0 0 (0, 0) (fun v σ' c' m' => X (20, [some (.ref 44), some (.ref 5), some (.int v2)], v.toList ++ [], σ', c', m'))
      obtain ⟨q1, hq1, hl⟩ := bd_some hl
      refine kcall0 rfl (hk _ _ _ _ _ _ (e_X5_signAt_44 (d + 0) S hs ((S.1 44 7) + v2) q1 hq1 _ ?_))
      show X (20, [some (.ref 44), some (.ref 5), some (.int v2)], [.int q1], st S hs, 0, 0)
      refine hX _ ?_
      clear hP hX hk P' X cal
      refine Wp.stepsG 3 (fun cal X P' hk hX hP => ?_)
      show vp_in v2 4 ∧ X (25, [some (.ref 44), some (.ref 5), some (.int v2)], [.int (cAt (bAt strB 5) v2.toNatClampNeg), .int q1], st S hs, 0, 0)
      obtain ⟨hg, hl⟩ := gd_some hl
      refine ⟨hg, hX _ ?_⟩
      clear hP hX hk P' X cal
      refine Wp.stepsG 1 (fun cal X P' hk hX hP => ?_)
      show (¬ q1 = (cAt (bAt strB 5) v2.toNatClampNeg) → X (34, [some (.ref 44), some (.ref 5), some (.int v2)], [], st S hs, 0, 0)) ∧ (q1 = (cAt (bAt strB 5) v2.toNatClampNeg) → X (28, [some (.ref 44), some (.ref 5), some (.int v2)], [], st S hs, 0, 0))
      refine ⟨fun hc => hX _ ?_, fun hc => hX _ ?_⟩
      · clear hP hX hk P' X cal
        rw [if_neg hc] at hl
        have hl := Option.some.inj hl
        subst hl
        exact (ct)
      · clear hP hX hk P' X cal
        rw [if_pos hc] at hl
        refine Wp.stepsG 2 (fun cal X P' hk hX hP => ?_)
        show X (2, [some (.ref 44), some (.ref 5), some (.int (v2 + 1))], [], st S hs, 0, 0)
        refine hX _ ?_
        exact (ih (v2 + 1) q hl ct)
set_option maxRecDepth 20000 in
set_option maxHeartbeats 4000000 in
theorem e_X5_alike_5_44 (d : Nat) (S : St) (hs : List Hr) (v : Int32) (hr : r_X5_alike_5 S 44 = some v) (P : Option Value → Hp → Prop) (h : P (some (.int v)) (st S hs)) : Ev (d + 2) ix_X5_alike 0 0 [.ref 44, .ref 5] (st S hs) P := by
  refine Ev.intro (M := mi_X5_alike) rfl (Nat.le_of_ble_eq_true rfl) ?_
  unfold r_X5_alike_5 at hr
  refine Wp.stepsG 2 (fun cal X P' hk hX hP => ?_)
  show X (2, [some (.ref 44), some (.ref 5), some (.int 0)], [], st S hs, 0, 0)
  refine hX _ ?_
  clear hP hX hk P' X cal
  obtain ⟨q2, hq2, hr⟩ := bd_some hr
  refine (e_lp_X5_alike_5_2_44 d hs P S _ 0 q2 hq2 ?_)
  have hr := Option.some.inj hr
  subst hr
  refine Wp.stepsG 2 (fun cal X P' hk hX hP => ?_)
  exact hP _ _ h
set_option maxRecDepth 20000 in
set_option maxHeartbeats 4000000 in
theorem e_lp_X5_alike_6_2_44 (d : Nat) (hs : List Hr) (P : Option Value → Hp → Prop) (S : St) : ∀ (n : Nat) (v2 : Int32) (q : Int32), lp_X5_alike_6_2 S 44 n v2 = some q → (WM mi_X5_alike (d + 1) P 34 [some (.ref 44), some (.ref 6), some (.int q)] [] (st S hs)) → WM mi_X5_alike (d + 1) P 2 [some (.ref 44), some (.ref 6), some (.int v2)] [] (st S hs) := by
  intro n
  induction n with
  | zero =>
    intro v2 q hl
    cases hl
  | succ n ih =>
    intro v2 q hl ct
    rw [lp_X5_alike_6_2] at hl
    refine Wp.stepsG 4 (fun cal X P' hk hX hP => ?_)
    show (4 ≤ v2 → X (34, [some (.ref 44), some (.ref 6), some (.int v2)], [], st S hs, 0, 0)) ∧ (¬ 4 ≤ v2 → X (10, [some (.ref 44), some (.ref 6), some (.int v2)], [], st S hs, 0, 0))
    refine ⟨fun hc => hX _ ?_, fun hc => hX _ ?_⟩
    · clear hP hX hk P' X cal
      rw [if_pos hc] at hl
      have hl := Option.some.inj hl
      subst hl
      exact (ct)
    · clear hP hX hk P' X cal
      rw [if_neg hc] at hl
      refine Wp.stepsG 6 (fun cal X P' hk hX hP => ?_)
      show kcall cal ix_X5_signAt [.ref 44, .int ((S.1 44 7) + v2)] (st S hs) [] 0 0 (0, 0) (fun v σ' c' m' => X (20, [some (.ref 44), some (.ref 6), some (.int v2)], v.toList ++ [], σ', c', m'))
      obtain ⟨q1, hq1, hl⟩ := bd_some hl
      refine kcall0 rfl (hk _ _ _ _ _ _ (e_X5_signAt_44 (d + 0) S hs ((S.1 44 7) + v2) q1 hq1 _ ?_))
      show X (20, [some (.ref 44), some (.ref 6), some (.int v2)], [.int q1], st S hs, 0, 0)
      refine hX _ ?_
      clear hP hX hk P' X cal
      refine Wp.stepsG 3 (fun cal X P' hk hX hP => ?_)
      show vp_in v2 4 ∧ X (25, [some (.ref 44), some (.ref 6), some (.int v2)], [.int (cAt (bAt strB 6) v2.toNatClampNeg), .int q1], st S hs, 0, 0)
      obtain ⟨hg, hl⟩ := gd_some hl
      refine ⟨hg, hX _ ?_⟩
      clear hP hX hk P' X cal
      refine Wp.stepsG 1 (fun cal X P' hk hX hP => ?_)
      show (¬ q1 = (cAt (bAt strB 6) v2.toNatClampNeg) → X (34, [some (.ref 44), some (.ref 6), some (.int v2)], [], st S hs, 0, 0)) ∧ (q1 = (cAt (bAt strB 6) v2.toNatClampNeg) → X (28, [some (.ref 44), some (.ref 6), some (.int v2)], [], st S hs, 0, 0))
      refine ⟨fun hc => hX _ ?_, fun hc => hX _ ?_⟩
      · clear hP hX hk P' X cal
        rw [if_neg hc] at hl
        have hl := Option.some.inj hl
        subst hl
        exact (ct)
      · clear hP hX hk P' X cal
        rw [if_pos hc] at hl
        refine Wp.stepsG 2 (fun cal X P' hk hX hP => ?_)
        show X (2, [some (.ref 44), some (.ref 6), some (.int (v2 + 1))], [], st S hs, 0, 0)
        refine hX _ ?_
        exact (ih (v2 + 1) q hl ct)
set_option maxRecDepth 20000 in
set_option maxHeartbeats 4000000 in
theorem e_X5_alike_6_44 (d : Nat) (S : St) (hs : List Hr) (v : Int32) (hr : r_X5_alike_6 S 44 = some v) (P : Option Value → Hp → Prop) (h : P (some (.int v)) (st S hs)) : Ev (d + 2) ix_X5_alike 0 0 [.ref 44, .ref 6] (st S hs) P := by
  refine Ev.intro (M := mi_X5_alike) rfl (Nat.le_of_ble_eq_true rfl) ?_
  unfold r_X5_alike_6 at hr
  refine Wp.stepsG 2 (fun cal X P' hk hX hP => ?_)
  show X (2, [some (.ref 44), some (.ref 6), some (.int 0)], [], st S hs, 0, 0)
  refine hX _ ?_
  clear hP hX hk P' X cal
  obtain ⟨q2, hq2, hr⟩ := bd_some hr
  refine (e_lp_X5_alike_6_2_44 d hs P S _ 0 q2 hq2 ?_)
  have hr := Option.some.inj hr
  subst hr
  refine Wp.stepsG 2 (fun cal X P' hk hX hP => ?_)
  exact hP _ _ h
set_option maxRecDepth 20000 in
set_option maxHeartbeats 4000000 in
theorem e_lp_X5_goByWord_4_44 (d : Nat) (hs : List Hr) (P : Option Value → Hp → Prop) (S : St) : ∀ (n : Nat) (v1 : Int32) (v2 : Int32) (q : Nat × Int32 × Int32 × Int32), lp_X5_goByWord_4 S 44 n v1 v2 = some q → (q.1 = 0 → WM mi_X5_goByWord (d + 2) P 30 [some (.ref 44), none, some (.int q.2.2.1), none, some (.int q.2.2.2)] [] (st S hs)) ∧ (q.1 = 1 → WM mi_X5_goByWord (d + 2) P 56 [some (.ref 44), some (.int q.2.1), none, none, none] [] (st S hs)) → WM mi_X5_goByWord (d + 2) P 4 [some (.ref 44), some (.int v1), some (.int v2), none, none] [] (st S hs) := by
  intro n
  induction n with
  | zero =>
    intro v1 v2 q hl
    cases hl
  | succ n ih =>
    intro v1 v2 q hl ct
    rw [lp_X5_goByWord_4] at hl
    refine Wp.stepsG 3 (fun cal X P' hk hX hP => ?_)
    show (4 ≤ v2 → X (56, [some (.ref 44), some (.int v1), some (.int v2), none, none], [], st S hs, 0, 0)) ∧ (¬ 4 ≤ v2 → X (9, [some (.ref 44), some (.int v1), some (.int v2), none, none], [], st S hs, 0, 0))
    refine ⟨fun hc => hX _ ?_, fun hc => hX _ ?_⟩
    · clear hP hX hk P' X cal
      rw [if_pos hc] at hl
      have hl := Option.some.inj hl
      subst hl
      exact Wp.weak (leL.k (leL.k (leL.n (leL.k (leL.k leL.z))))) (ct.2 rfl)
    · clear hP hX hk P' X cal
      rw [if_neg hc] at hl
      refine Wp.stepsG 2 (fun cal X P' hk hX hP => ?_)
      show kcall cal ix_X5_wordOf [.int v2] (st S hs) [] 0 0 (0, 0) (fun v σ' c' m' => X (13, [some (.ref 44), some (.int v1), some (.int v2), none, none], v.toList ++ [], σ', c', m'))
      refine kcall0 rfl (hk _ _ _ _ _ _ (e_X5_wordOf (d + 1) S hs v2 _ ?_))
      show X (13, [some (.ref 44), some (.int v1), some (.int v2), none, none], [va_rf (r_X5_wordOf v2)], st S hs, 0, 0)
      refine hX _ ?_
      clear hP hX hk P' X cal
      rcases c_X5_wordOf v2 with hz6 | hz6 | hz6 | hz6
      · rw [hz6]
        rw [if_pos hz6] at hl
        refine Wp.stepsG 4 (fun cal X P' hk hX hP => ?_)
        show kcall cal ix_X5_alike [.ref 44, .ref 3] (st S hs) [] 0 0 (0, 0) (fun v σ' c' m' => X (19, [some (.ref 44), some (.int v1), some (.int v2), some (.ref 3), none], v.toList ++ [], σ', c', m'))
        obtain ⟨q1, hq1, hl⟩ := bd_some hl
        refine kcall0 rfl (hk _ _ _ _ _ _ (e_X5_alike_3_44 (d + 0) S hs q1 hq1 _ ?_))
        show X (19, [some (.ref 44), some (.int v1), some (.int v2), some (.ref 3), none], [.int q1], st S hs, 0, 0)
        refine hX _ ?_
        clear hP hX hk P' X cal
        refine Wp.stepsG 5 (fun cal X P' hk hX hP => ?_)
        show (¬ q1 = 3 → X (43, [some (.ref 44), some (.int v1), some (.int v2), some (.ref 3), some (.int q1)], [], st S hs, 0, 0)) ∧ (q1 = 3 → X (30, [some (.ref 44), some (.int v1), some (.int v2), some (.ref 3), some (.int q1)], [], st S hs, 0, 0))
        refine ⟨fun hc => hX _ ?_, fun hc => hX _ ?_⟩
        · clear hP hX hk P' X cal
          rw [if_neg hc] at hl
          refine Wp.stepsG 6 (fun cal X P' hk hX hP => ?_)
          show X (4, [some (.ref 44), some (.int (if v1 < q1 then q1 else v1)), some (.int (v2 + 1)), some (.ref 3), some (.int q1)], [], st S hs, 0, 0)
          refine hX _ ?_
          exact Wp.weak (leL.k (leL.k (leL.k (leL.n (leL.n leL.z))))) (ih (if v1 < q1 then q1 else v1) (v2 + 1) q hl ct)
        · clear hP hX hk P' X cal
          rw [if_pos hc] at hl
          have hl := Option.some.inj hl
          subst hl
          exact Wp.weak (leL.k (leL.n (leL.k (leL.n (leL.k leL.z))))) (ct.1 rfl)
      · rw [hz6]
        rw [if_neg (fun z => absurd (hz6.symm.trans z) (by decide))] at hl
        rw [if_pos hz6] at hl
        refine Wp.stepsG 4 (fun cal X P' hk hX hP => ?_)
        show kcall cal ix_X5_alike [.ref 44, .ref 4] (st S hs) [] 0 0 (0, 0) (fun v σ' c' m' => X (19, [some (.ref 44), some (.int v1), some (.int v2), some (.ref 4), none], v.toList ++ [], σ', c', m'))
        obtain ⟨q2, hq2, hl⟩ := bd_some hl
        refine kcall0 rfl (hk _ _ _ _ _ _ (e_X5_alike_4_44 (d + 0) S hs q2 hq2 _ ?_))
        show X (19, [some (.ref 44), some (.int v1), some (.int v2), some (.ref 4), none], [.int q2], st S hs, 0, 0)
        refine hX _ ?_
        clear hP hX hk P' X cal
        refine Wp.stepsG 5 (fun cal X P' hk hX hP => ?_)
        show (¬ q2 = 4 → X (43, [some (.ref 44), some (.int v1), some (.int v2), some (.ref 4), some (.int q2)], [], st S hs, 0, 0)) ∧ (q2 = 4 → X (30, [some (.ref 44), some (.int v1), some (.int v2), some (.ref 4), some (.int q2)], [], st S hs, 0, 0))
        refine ⟨fun hc => hX _ ?_, fun hc => hX _ ?_⟩
        · clear hP hX hk P' X cal
          rw [if_neg hc] at hl
          refine Wp.stepsG 6 (fun cal X P' hk hX hP => ?_)
          show X (4, [some (.ref 44), some (.int (if v1 < q2 then q2 else v1)), some (.int (v2 + 1)), some (.ref 4), some (.int q2)], [], st S hs, 0, 0)
          refine hX _ ?_
          exact Wp.weak (leL.k (leL.k (leL.k (leL.n (leL.n leL.z))))) (ih (if v1 < q2 then q2 else v1) (v2 + 1) q hl ct)
        · clear hP hX hk P' X cal
          rw [if_pos hc] at hl
          have hl := Option.some.inj hl
          subst hl
          exact Wp.weak (leL.k (leL.n (leL.k (leL.n (leL.k leL.z))))) (ct.1 rfl)
      · rw [hz6]
        rw [if_neg (fun z => absurd (hz6.symm.trans z) (by decide))] at hl
        rw [if_neg (fun z => absurd (hz6.symm.trans z) (by decide))] at hl
        rw [if_pos hz6] at hl
        refine Wp.stepsG 4 (fun cal X P' hk hX hP => ?_)
        show kcall cal ix_X5_alike [.ref 44, .ref 5] (st S hs) [] 0 0 (0, 0) (fun v σ' c' m' => X (19, [some (.ref 44), some (.int v1), some (.int v2), some (.ref 5), none], v.toList ++ [], σ', c', m'))
        obtain ⟨q3, hq3, hl⟩ := bd_some hl
        refine kcall0 rfl (hk _ _ _ _ _ _ (e_X5_alike_5_44 (d + 0) S hs q3 hq3 _ ?_))
        show X (19, [some (.ref 44), some (.int v1), some (.int v2), some (.ref 5), none], [.int q3], st S hs, 0, 0)
        refine hX _ ?_
        clear hP hX hk P' X cal
        refine Wp.stepsG 5 (fun cal X P' hk hX hP => ?_)
        show (¬ q3 = 4 → X (43, [some (.ref 44), some (.int v1), some (.int v2), some (.ref 5), some (.int q3)], [], st S hs, 0, 0)) ∧ (q3 = 4 → X (30, [some (.ref 44), some (.int v1), some (.int v2), some (.ref 5), some (.int q3)], [], st S hs, 0, 0))
        refine ⟨fun hc => hX _ ?_, fun hc => hX _ ?_⟩
        · clear hP hX hk P' X cal
          rw [if_neg hc] at hl
          refine Wp.stepsG 6 (fun cal X P' hk hX hP => ?_)
          show X (4, [some (.ref 44), some (.int (if v1 < q3 then q3 else v1)), some (.int (v2 + 1)), some (.ref 5), some (.int q3)], [], st S hs, 0, 0)
          refine hX _ ?_
          exact Wp.weak (leL.k (leL.k (leL.k (leL.n (leL.n leL.z))))) (ih (if v1 < q3 then q3 else v1) (v2 + 1) q hl ct)
        · clear hP hX hk P' X cal
          rw [if_pos hc] at hl
          have hl := Option.some.inj hl
          subst hl
          exact Wp.weak (leL.k (leL.n (leL.k (leL.n (leL.k leL.z))))) (ct.1 rfl)
      · rw [hz6]
        rw [if_neg (fun z => absurd (hz6.symm.trans z) (by decide))] at hl
        rw [if_neg (fun z => absurd (hz6.symm.trans z) (by decide))] at hl
        rw [if_neg (fun z => absurd (hz6.symm.trans z) (by decide))] at hl
        refine Wp.stepsG 4 (fun cal X P' hk hX hP => ?_)
        show kcall cal ix_X5_alike [.ref 44, .ref 6] (st S hs) [] 0 0 (0, 0) (fun v σ' c' m' => X (19, [some (.ref 44), some (.int v1), some (.int v2), some (.ref 6), none], v.toList ++ [], σ', c', m'))
        obtain ⟨q4, hq4, hl⟩ := bd_some hl
        refine kcall0 rfl (hk _ _ _ _ _ _ (e_X5_alike_6_44 (d + 0) S hs q4 hq4 _ ?_))
        show X (19, [some (.ref 44), some (.int v1), some (.int v2), some (.ref 6), none], [.int q4], st S hs, 0, 0)
        refine hX _ ?_
        clear hP hX hk P' X cal
        refine Wp.stepsG 5 (fun cal X P' hk hX hP => ?_)
        show (¬ q4 = 4 → X (43, [some (.ref 44), some (.int v1), some (.int v2), some (.ref 6), some (.int q4)], [], st S hs, 0, 0)) ∧ (q4 = 4 → X (30, [some (.ref 44), some (.int v1), some (.int v2), some (.ref 6), some (.int q4)], [], st S hs, 0, 0))
        refine ⟨fun hc => hX _ ?_, fun hc => hX _ ?_⟩
        · clear hP hX hk P' X cal
          rw [if_neg hc] at hl
          refine Wp.stepsG 6 (fun cal X P' hk hX hP => ?_)
          show X (4, [some (.ref 44), some (.int (if v1 < q4 then q4 else v1)), some (.int (v2 + 1)), some (.ref 6), some (.int q4)], [], st S hs, 0, 0)
          refine hX _ ?_
          exact Wp.weak (leL.k (leL.k (leL.k (leL.n (leL.n leL.z))))) (ih (if v1 < q4 then q4 else v1) (v2 + 1) q hl ct)
        · clear hP hX hk P' X cal
          rw [if_pos hc] at hl
          have hl := Option.some.inj hl
          subst hl
          exact Wp.weak (leL.k (leL.n (leL.k (leL.n (leL.k leL.z))))) (ct.1 rfl)
