def r_X12_of (S : St) (a1 : Int32) (a2 : Int32) : Option (Int32 × St) :=
  if (r_X12_isHearer S a1) = 0 then
    some ((-1), S)
  else
    if a2 = 0 then
      if a2 = 0 then
        gd (¬ (a1 < 0 ∨ 6 ≤ a1.toNatClampNeg)) (
          some ((S.1 79) a1.toNatClampNeg, S))
      else
        gd (¬ (a1 < 0 ∨ 6 ≤ a1.toNatClampNeg)) (
          some ((S.1 80) a1.toNatClampNeg, S))
    else
      if a2 = 1 then
        if a2 = 0 then
          gd (¬ (a1 < 0 ∨ 6 ≤ a1.toNatClampNeg)) (
            some ((S.1 79) a1.toNatClampNeg, S))
        else
          gd (¬ (a1 < 0 ∨ 6 ≤ a1.toNatClampNeg)) (
            some ((S.1 80) a1.toNatClampNeg, S))
      else
        if (r_X12_in a2 10 39) = 0 then
          some ((-1), S)
        else
          if (r_X12_isStory S (a2 - a2 / 10 * 10)) = 0 then
            some ((-1), S)
          else
            if 20 ≤ a2 then
              if 30 ≤ a2 then
                (r_X12_mood S a1 (a2 - a2 / 10 * 10)).bind fun q1 =>
                some (q1.1 + 1000, q1.2)
              else
                (r_X12_knows S a1 (a2 - a2 / 10 * 10)).bind fun q2 =>
                if q2 = 0 then
                  some (0, S)
                else
                  some (1, S)
            else
              gd (¬ ((((8 : Int32) * a1) + (a2 - a2 / 10 * 10)) < 0 ∨ 48 ≤ (((8 : Int32) * a1) + (a2 - a2 / 10 * 10)).toNatClampNeg)) (
                some ((S.1 82) (((8 : Int32) * a1) + (a2 - a2 / 10 * 10)).toNatClampNeg, S))
set_option maxRecDepth 20000 in
set_option maxHeartbeats 4000000 in
theorem e_X12_of (d : Nat) (S : St) (hs : List Hr) (a1 : Int32) (a2 : Int32) (v : Int32 × St) (hr : r_X12_of S a1 a2 = some v) (P : Option Value → Hp → Prop) (h : P (some (.int v.1)) (st v.2 hs)) : Ev (d + 5) ix_X12_of 0 0 [.ref 76, .int a1, .int a2] (st S hs) P := by
  refine Ev.intro (M := mi_X12_of) rfl (Nat.le_of_ble_eq_true rfl) ?_
  unfold r_X12_of at hr
  refine Wp.stepsG 3 (fun cal X P' hk hX hP => ?_)
  show kcall cal ix_X12_isHearer [.ref 76, .int a1] (st S hs) [] 0 0 (0, 0) (fun v σ' c' m' => X (5, [some (.ref 76), some (.int a1), some (.int a2), none], v.toList ++ [], σ', c', m'))
  refine kcall0 rfl (hk _ _ _ _ _ _ (e_X12_isHearer (d + 2) S hs a1 _ ?_))
  show X (5, [some (.ref 76), some (.int a1), some (.int a2), none], [.int (r_X12_isHearer S a1)], st S hs, 0, 0)
  refine hX _ ?_
  clear hP hX hk P' X cal
  refine Wp.stepsG 1 (fun cal X P' hk hX hP => ?_)
  show (¬ (r_X12_isHearer S a1) = 0 → X (10, [some (.ref 76), some (.int a1), some (.int a2), none], [], st S hs, 0, 0)) ∧ ((r_X12_isHearer S a1) = 0 → X (8, [some (.ref 76), some (.int a1), some (.int a2), none], [], st S hs, 0, 0))
  refine ⟨fun hc => hX _ ?_, fun hc => hX _ ?_⟩
  · clear hP hX hk P' X cal
    rw [if_neg hc] at hr
    refine Wp.stepsG 2 (fun cal X P' hk hX hP => ?_)
    show (a2 = 0 → X (19, [some (.ref 76), some (.int a1), some (.int a2), none], [], st S hs, 0, 0)) ∧ (¬ a2 = 0 → X (14, [some (.ref 76), some (.int a1), some (.int a2), none], [], st S hs, 0, 0))
    refine ⟨fun hc => hX _ ?_, fun hc => hX _ ?_⟩
    · clear hP hX hk P' X cal
      rw [if_pos hc] at hr
      refine Wp.stepsG 2 (fun cal X P' hk hX hP => ?_)
      show (¬ a2 = 0 → X (32, [some (.ref 76), some (.int a1), some (.int a2), none], [], st S hs, 0, 0)) ∧ (a2 = 0 → X (23, [some (.ref 76), some (.int a1), some (.int a2), none], [], st S hs, 0, 0))
      refine ⟨fun hc => hX _ ?_, fun hc => hX _ ?_⟩
      · clear hP hX hk P' X cal
        rw [if_neg hc] at hr
        refine Wp.stepsG 4 (fun cal X P' hk hX hP => ?_)
        show vp_in a1 6 ∧ X (38, [some (.ref 76), some (.int a1), some (.int a2), none], [.int ((S.1 80) a1.toNatClampNeg)], st S hs, 0, 0)
        obtain ⟨hg, hr⟩ := gd_some hr
        refine ⟨hg, hX _ ?_⟩
        clear hP hX hk P' X cal
        have hr := Option.some.inj hr
        subst hr
        refine Wp.stepsG 1 (fun cal X P' hk hX hP => ?_)
        exact hP _ _ h
      · clear hP hX hk P' X cal
        rw [if_pos hc] at hr
        refine Wp.stepsG 4 (fun cal X P' hk hX hP => ?_)
        show vp_in a1 6 ∧ X (29, [some (.ref 76), some (.int a1), some (.int a2), none], [.int ((S.1 79) a1.toNatClampNeg)], st S hs, 0, 0)
        obtain ⟨hg, hr⟩ := gd_some hr
        refine ⟨hg, hX _ ?_⟩
        clear hP hX hk P' X cal
        have hr := Option.some.inj hr
        subst hr
        refine Wp.stepsG 2 (fun cal X P' hk hX hP => ?_)
        exact hP _ _ h
    · clear hP hX hk P' X cal
      rw [if_neg hc] at hr
      refine Wp.stepsG 3 (fun cal X P' hk hX hP => ?_)
      show (¬ a2 = 1 → X (39, [some (.ref 76), some (.int a1), some (.int a2), none], [], st S hs, 0, 0)) ∧ (a2 = 1 → X (19, [some (.ref 76), some (.int a1), some (.int a2), none], [], st S hs, 0, 0))
      refine ⟨fun hc => hX _ ?_, fun hc => hX _ ?_⟩
      · clear hP hX hk P' X cal
        rw [if_neg hc] at hr
        refine Wp.stepsG 3 (fun cal X P' hk hX hP => ?_)
        show ¬ (10 : Int32) = 0 ∧ X (43, [some (.ref 76), some (.int a1), some (.int a2), none], [.int (a2 - a2 / 10 * 10)], st S hs, 0, 0)
        refine ⟨(show ¬ (10 : Int32) = 0 from by decide), hX _ ?_⟩
        clear hP hX hk P' X cal
        refine Wp.stepsG 6 (fun cal X P' hk hX hP => ?_)
        show kcall cal ix_X12_in [.ref 76, .int a2, .int 10, .int 39] (st S hs) [] 0 0 (0, 0) (fun v σ' c' m' => X (53, [some (.ref 76), some (.int a1), some (.int a2), some (.int (a2 - a2 / 10 * 10))], v.toList ++ [], σ', c', m'))
        refine kcall0 rfl (hk _ _ _ _ _ _ (e_X12_in (d + 3) S hs a2 10 39 _ ?_))
        show X (53, [some (.ref 76), some (.int a1), some (.int a2), some (.int (a2 - a2 / 10 * 10))], [.int (r_X12_in a2 10 39)], st S hs, 0, 0)
        refine hX _ ?_
        clear hP hX hk P' X cal
        refine Wp.stepsG 1 (fun cal X P' hk hX hP => ?_)
        show ((r_X12_in a2 10 39) = 0 → X (64, [some (.ref 76), some (.int a1), some (.int a2), some (.int (a2 - a2 / 10 * 10))], [], st S hs, 0, 0)) ∧ (¬ (r_X12_in a2 10 39) = 0 → X (56, [some (.ref 76), some (.int a1), some (.int a2), some (.int (a2 - a2 / 10 * 10))], [], st S hs, 0, 0))
        refine ⟨fun hc => hX _ ?_, fun hc => hX _ ?_⟩
        · clear hP hX hk P' X cal
          rw [if_pos hc] at hr
          have hr := Option.some.inj hr
          subst hr
          refine Wp.stepsG 2 (fun cal X P' hk hX hP => ?_)
          exact hP _ _ h
        · clear hP hX hk P' X cal
          rw [if_neg hc] at hr
          refine Wp.stepsG 3 (fun cal X P' hk hX hP => ?_)
          show kcall cal ix_X12_isStory [.ref 76, .int (a2 - a2 / 10 * 10)] (st S hs) [] 0 0 (0, 0) (fun v σ' c' m' => X (61, [some (.ref 76), some (.int a1), some (.int a2), some (.int (a2 - a2 / 10 * 10))], v.toList ++ [], σ', c', m'))
          refine kcall0 rfl (hk _ _ _ _ _ _ (e_X12_isStory (d + 2) S hs (a2 - a2 / 10 * 10) _ ?_))
          show X (61, [some (.ref 76), some (.int a1), some (.int a2), some (.int (a2 - a2 / 10 * 10))], [.int (r_X12_isStory S (a2 - a2 / 10 * 10))], st S hs, 0, 0)
          refine hX _ ?_
          clear hP hX hk P' X cal
          refine Wp.stepsG 1 (fun cal X P' hk hX hP => ?_)
          show (¬ (r_X12_isStory S (a2 - a2 / 10 * 10)) = 0 → X (66, [some (.ref 76), some (.int a1), some (.int a2), some (.int (a2 - a2 / 10 * 10))], [], st S hs, 0, 0)) ∧ ((r_X12_isStory S (a2 - a2 / 10 * 10)) = 0 → X (64, [some (.ref 76), some (.int a1), some (.int a2), some (.int (a2 - a2 / 10 * 10))], [], st S hs, 0, 0))
          refine ⟨fun hc => hX _ ?_, fun hc => hX _ ?_⟩
          · clear hP hX hk P' X cal
            rw [if_neg hc] at hr
            refine Wp.stepsG 3 (fun cal X P' hk hX hP => ?_)
            show (20 ≤ a2 → X (86, [some (.ref 76), some (.int a1), some (.int a2), some (.int (a2 - a2 / 10 * 10))], [], st S hs, 0, 0)) ∧ (¬ 20 ≤ a2 → X (72, [some (.ref 76), some (.int a1), some (.int a2), some (.int (a2 - a2 / 10 * 10))], [], st S hs, 0, 0))
            refine ⟨fun hc => hX _ ?_, fun hc => hX _ ?_⟩
            · clear hP hX hk P' X cal
              rw [if_pos hc] at hr
              refine Wp.stepsG 3 (fun cal X P' hk hX hP => ?_)
              show (30 ≤ a2 → X (109, [some (.ref 76), some (.int a1), some (.int a2), some (.int (a2 - a2 / 10 * 10))], [], st S hs, 0, 0)) ∧ (¬ 30 ≤ a2 → X (92, [some (.ref 76), some (.int a1), some (.int a2), some (.int (a2 - a2 / 10 * 10))], [], st S hs, 0, 0))
              refine ⟨fun hc => hX _ ?_, fun hc => hX _ ?_⟩
              · clear hP hX hk P' X cal
                rw [if_pos hc] at hr
                refine Wp.stepsG 4 (fun cal X P' hk hX hP => ?_)
                show kcall cal ix_X12_mood [.ref 76, .int a1, .int (a2 - a2 / 10 * 10)] (st S hs) [] 0 0 (0, 0) (fun v σ' c' m' => X (115, [some (.ref 76), some (.int a1), some (.int a2), some (.int (a2 - a2 / 10 * 10))], v.toList ++ [], σ', c', m'))
                obtain ⟨q1, hq1, hr⟩ := bd_some hr
                refine kcall0 rfl (hk _ _ _ _ _ _ (e_X12_mood (d + 1) S hs a1 (a2 - a2 / 10 * 10) q1 hq1 _ ?_))
                show X (115, [some (.ref 76), some (.int a1), some (.int a2), some (.int (a2 - a2 / 10 * 10))], [.int q1.1], st q1.2 hs, 0, 0)
                refine hX _ ?_
                clear hP hX hk P' X cal
                have hr := Option.some.inj hr
                subst hr
                refine Wp.stepsG 3 (fun cal X P' hk hX hP => ?_)
                exact hP _ _ h
              · clear hP hX hk P' X cal
                rw [if_neg hc] at hr
                refine Wp.stepsG 4 (fun cal X P' hk hX hP => ?_)
                show kcall cal ix_X12_knows [.ref 76, .int a1, .int (a2 - a2 / 10 * 10)] (st S hs) [] 0 0 (0, 0) (fun v σ' c' m' => X (98, [some (.ref 76), some (.int a1), some (.int a2), some (.int (a2 - a2 / 10 * 10))], v.toList ++ [], σ', c', m'))
                obtain ⟨q2, hq2, hr⟩ := bd_some hr
                refine kcall0 rfl (hk _ _ _ _ _ _ (e_X12_knows (d + 0) S hs a1 (a2 - a2 / 10 * 10) q2 hq2 _ ?_))
                show X (98, [some (.ref 76), some (.int a1), some (.int a2), some (.int (a2 - a2 / 10 * 10))], [.int q2], st S hs, 0, 0)
                refine hX _ ?_
                clear hP hX hk P' X cal
                refine Wp.stepsG 1 (fun cal X P' hk hX hP => ?_)
                show (q2 = 0 → X (105, [some (.ref 76), some (.int a1), some (.int a2), some (.int (a2 - a2 / 10 * 10))], [], st S hs, 0, 0)) ∧ (¬ q2 = 0 → X (101, [some (.ref 76), some (.int a1), some (.int a2), some (.int (a2 - a2 / 10 * 10))], [], st S hs, 0, 0))
                refine ⟨fun hc => hX _ ?_, fun hc => hX _ ?_⟩
                · clear hP hX hk P' X cal
                  rw [if_pos hc] at hr
                  have hr := Option.some.inj hr
                  subst hr
                  refine Wp.stepsG 3 (fun cal X P' hk hX hP => ?_)
                  exact hP _ _ h
                · clear hP hX hk P' X cal
                  rw [if_neg hc] at hr
                  have hr := Option.some.inj hr
                  subst hr
                  refine Wp.stepsG 3 (fun cal X P' hk hX hP => ?_)
                  exact hP _ _ h
            · clear hP hX hk P' X cal
              rw [if_neg hc] at hr
              refine Wp.stepsG 8 (fun cal X P' hk hX hP => ?_)
              show vp_in (((8 : Int32) * a1) + (a2 - a2 / 10 * 10)) 48 ∧ X (83, [some (.ref 76), some (.int a1), some (.int a2), some (.int (a2 - a2 / 10 * 10))], [.int ((S.1 82) (((8 : Int32) * a1) + (a2 - a2 / 10 * 10)).toNatClampNeg)], st S hs, 0, 0)
              obtain ⟨hg, hr⟩ := gd_some hr
              refine ⟨hg, hX _ ?_⟩
              clear hP hX hk P' X cal
              have hr := Option.some.inj hr
              subst hr
              refine Wp.stepsG 2 (fun cal X P' hk hX hP => ?_)
              exact hP _ _ h
          · clear hP hX hk P' X cal
            rw [if_pos hc] at hr
            have hr := Option.some.inj hr
            subst hr
            refine Wp.stepsG 2 (fun cal X P' hk hX hP => ?_)
            exact hP _ _ h
      · clear hP hX hk P' X cal
        rw [if_pos hc] at hr
        refine Wp.stepsG 2 (fun cal X P' hk hX hP => ?_)
        show (¬ a2 = 0 → X (32, [some (.ref 76), some (.int a1), some (.int a2), none], [], st S hs, 0, 0)) ∧ (a2 = 0 → X (23, [some (.ref 76), some (.int a1), some (.int a2), none], [], st S hs, 0, 0))
        refine ⟨fun hc => hX _ ?_, fun hc => hX _ ?_⟩
        · clear hP hX hk P' X cal
          rw [if_neg hc] at hr
          refine Wp.stepsG 4 (fun cal X P' hk hX hP => ?_)
          show vp_in a1 6 ∧ X (38, [some (.ref 76), some (.int a1), some (.int a2), none], [.int ((S.1 80) a1.toNatClampNeg)], st S hs, 0, 0)
          obtain ⟨hg, hr⟩ := gd_some hr
          refine ⟨hg, hX _ ?_⟩
          clear hP hX hk P' X cal
          have hr := Option.some.inj hr
          subst hr
          refine Wp.stepsG 1 (fun cal X P' hk hX hP => ?_)
          exact hP _ _ h
        · clear hP hX hk P' X cal
          rw [if_pos hc] at hr
          refine Wp.stepsG 4 (fun cal X P' hk hX hP => ?_)
          show vp_in a1 6 ∧ X (29, [some (.ref 76), some (.int a1), some (.int a2), none], [.int ((S.1 79) a1.toNatClampNeg)], st S hs, 0, 0)
          obtain ⟨hg, hr⟩ := gd_some hr
          refine ⟨hg, hX _ ?_⟩
          clear hP hX hk P' X cal
          have hr := Option.some.inj hr
          subst hr
          refine Wp.stepsG 2 (fun cal X P' hk hX hP => ?_)
          exact hP _ _ h
  · clear hP hX hk P' X cal
    rw [if_pos hc] at hr
    have hr := Option.some.inj hr
    subst hr
    refine Wp.stepsG 2 (fun cal X P' hk hX hP => ?_)
    exact hP _ _ h
def r_X12_told (S : St) (a1 : Int32) : Option Int32 :=
  if a1 = 0 then
    some (S.1 76 2)
  else
    if a1 = 1 then
      (r_X12_lastOf S 2 20).bind fun q2 =>
      some q2
    else
      if a1 = 2 then
        (r_X12_lastOf S 3 5).bind fun q1 =>
        some q1
      else
        some (-1)
set_option maxRecDepth 20000 in
set_option maxHeartbeats 4000000 in
theorem e_X12_told (d : Nat) (S : St) (hs : List Hr) (a1 : Int32) (v : Int32) (hr : r_X12_told S a1 = some v) (P : Option Value → Hp → Prop) (h : P (some (.int v)) (st S hs)) : Ev (d + 3) ix_X12_told 0 0 [.ref 76, .int a1] (st S hs) P := by
  refine Ev.intro (M := mi_X12_told) rfl (Nat.le_of_ble_eq_true rfl) ?_
  unfold r_X12_told at hr
  refine Wp.stepsG 2 (fun cal X P' hk hX hP => ?_)
  show (¬ a1 = 0 → X (11, [some (.ref 76), some (.int a1)], [], st S hs, 0, 0)) ∧ (a1 = 0 → X (4, [some (.ref 76), some (.int a1)], [], st S hs, 0, 0))
  refine ⟨fun hc => hX _ ?_, fun hc => hX _ ?_⟩
  · clear hP hX hk P' X cal
    rw [if_neg hc] at hr
    refine Wp.stepsG 3 (fun cal X P' hk hX hP => ?_)
    show (¬ a1 = 1 → X (26, [some (.ref 76), some (.int a1)], [], st S hs, 0, 0)) ∧ (a1 = 1 → X (16, [some (.ref 76), some (.int a1)], [], st S hs, 0, 0))
    refine ⟨fun hc => hX _ ?_, fun hc => hX _ ?_⟩
    · clear hP hX hk P' X cal
      rw [if_neg hc] at hr
      refine Wp.stepsG 3 (fun cal X P' hk hX hP => ?_)
      show (¬ a1 = 2 → X (40, [some (.ref 76), some (.int a1)], [], st S hs, 0, 0)) ∧ (a1 = 2 → X (31, [some (.ref 76), some (.int a1)], [], st S hs, 0, 0))
      refine ⟨fun hc => hX _ ?_, fun hc => hX _ ?_⟩
      · clear hP hX hk P' X cal
        rw [if_neg hc] at hr
        have hr := Option.some.inj hr
        subst hr
        refine Wp.stepsG 2 (fun cal X P' hk hX hP => ?_)
        exact hP _ _ h
      · clear hP hX hk P' X cal
        rw [if_pos hc] at hr
        refine Wp.stepsG 4 (fun cal X P' hk hX hP => ?_)
        show kcall cal ix_X12_lastOf [.ref 76, .int 3, .int 5] (st S hs) [] 0 0 (0, 0) (fun v σ' c' m' => X (37, [some (.ref 76), some (.int a1)], v.toList ++ [], σ', c', m'))
        obtain ⟨q1, hq1, hr⟩ := bd_some hr
        refine kcall0 rfl (hk _ _ _ _ _ _ (e_X12_lastOf (d + 0) S hs 3 5 q1 hq1 _ ?_))
        show X (37, [some (.ref 76), some (.int a1)], [.int q1], st S hs, 0, 0)
        refine hX _ ?_
        clear hP hX hk P' X cal
        have hr := Option.some.inj hr
        subst hr
        refine Wp.stepsG 2 (fun cal X P' hk hX hP => ?_)
        exact hP _ _ h
    · clear hP hX hk P' X cal
      rw [if_pos hc] at hr
      refine Wp.stepsG 4 (fun cal X P' hk hX hP => ?_)
      show kcall cal ix_X12_lastOf [.ref 76, .int 2, .int 20] (st S hs) [] 0 0 (0, 0) (fun v σ' c' m' => X (23, [some (.ref 76), some (.int a1)], v.toList ++ [], σ', c', m'))
      obtain ⟨q2, hq2, hr⟩ := bd_some hr
      refine kcall0 rfl (hk _ _ _ _ _ _ (e_X12_lastOf (d + 0) S hs 2 20 q2 hq2 _ ?_))
      show X (23, [some (.ref 76), some (.int a1)], [.int q2], st S hs, 0, 0)
      refine hX _ ?_
      clear hP hX hk P' X cal
      have hr := Option.some.inj hr
      subst hr
      refine Wp.stepsG 2 (fun cal X P' hk hX hP => ?_)
      exact hP _ _ h
  · clear hP hX hk P' X cal
    rw [if_pos hc] at hr
    have hr := Option.some.inj hr
    subst hr
    refine Wp.stepsG 4 (fun cal X P' hk hX hP => ?_)
    exact hP _ _ h
def r_X12_pass (S : St) (a1 : Int32) : Option (Int32 × St) :=
  if (r_X12_in a1 0 99) = 0 then
    some ((-2), S)
  else
    if ((S.1 76 2) + a1) ≤ 9999 then
      some ((S.1 76 2) + a1, sI S 76 2 ((S.1 76 2) + a1))
    else
      some ((-3), S)
set_option maxRecDepth 20000 in
set_option maxHeartbeats 4000000 in
theorem e_X12_pass (d : Nat) (S : St) (hs : List Hr) (a1 : Int32) (v : Int32 × St) (hr : r_X12_pass S a1 = some v) (P : Option Value → Hp → Prop) (h : P (some (.int v.1)) (st v.2 hs)) : Ev (d + 2) ix_X12_pass 0 0 [.ref 76, .int a1] (st S hs) P := by
  refine Ev.intro (M := mi_X12_pass) rfl (Nat.le_of_ble_eq_true rfl) ?_
  unfold r_X12_pass at hr
  refine Wp.stepsG 5 (fun cal X P' hk hX hP => ?_)
  show kcall cal ix_X12_in [.ref 76, .int a1, .int 0, .int 99] (st S hs) [] 0 0 (0, 0) (fun v σ' c' m' => X (8, [some (.ref 76), some (.int a1)], v.toList ++ [], σ', c', m'))
  refine kcall0 rfl (hk _ _ _ _ _ _ (e_X12_in (d + 0) S hs a1 0 99 _ ?_))
  show X (8, [some (.ref 76), some (.int a1)], [.int (r_X12_in a1 0 99)], st S hs, 0, 0)
  refine hX _ ?_
  clear hP hX hk P' X cal
  refine Wp.stepsG 1 (fun cal X P' hk hX hP => ?_)
  show (¬ (r_X12_in a1 0 99) = 0 → X (14, [some (.ref 76), some (.int a1)], [], st S hs, 0, 0)) ∧ ((r_X12_in a1 0 99) = 0 → X (11, [some (.ref 76), some (.int a1)], [], st S hs, 0, 0))
  refine ⟨fun hc => hX _ ?_, fun hc => hX _ ?_⟩
  · clear hP hX hk P' X cal
    rw [if_neg hc] at hr
    refine Wp.stepsG 6 (fun cal X P' hk hX hP => ?_)
    show (((S.1 76 2) + a1) ≤ 9999 → X (29, [some (.ref 76), some (.int a1)], [], st S hs, 0, 0)) ∧ (¬ ((S.1 76 2) + a1) ≤ 9999 → X (26, [some (.ref 76), some (.int a1)], [], st S hs, 0, 0))
    refine ⟨fun hc => hX _ ?_, fun hc => hX _ ?_⟩
    · clear hP hX hk P' X cal
      rw [if_pos hc] at hr
      have hr := Option.some.inj hr
      subst hr
      refine Wp.stepsG 9 (fun cal X P' hk hX hP => ?_)
      exact hP _ _ h
    · clear hP hX hk P' X cal
      rw [if_neg hc] at hr
      have hr := Option.some.inj hr
      subst hr
      refine Wp.stepsG 2 (fun cal X P' hk hX hP => ?_)
      exact hP _ _ h
  · clear hP hX hk P' X cal
    rw [if_pos hc] at hr
    have hr := Option.some.inj hr
    subst hr
    refine Wp.stepsG 2 (fun cal X P' hk hX hP => ?_)
    exact hP _ _ h
def lp_X12_tells_10 (f1 : Int32) (f2 : Int32) (f3 : Int32) : Nat → Int32 → St → Option (St)
  | 0, _, _ => none
  | n + 1, v4, S =>
    if (S.1 76 1) ≤ v4 then
      some S
    else
      if (r_X12_has f2 v4) = 0 then
        lp_X12_tells_10 f1 f2 f3 n (v4 + 1) S
      else
        gd (¬ ((((8 : Int32) * v4) + f1) < 0 ∨ 48 ≤ (((8 : Int32) * v4) + f1).toNatClampNeg)) (
          if 999 ≤ ((S.1 82) (((8 : Int32) * v4) + f1).toNatClampNeg) then
            gd (¬ ((((8 : Int32) * v4) + f1) < 0 ∨ 48 ≤ (((8 : Int32) * v4) + f1).toNatClampNeg)) (
              gd (¬ ((((8 : Int32) * v4) + f1) < 0 ∨ 48 ≤ (((8 : Int32) * v4) + f1).toNatClampNeg)) (
                lp_X12_tells_10 f1 f2 f3 n (v4 + 1) (sA (sA S 82 (upd (S.1 82) (((8 : Int32) * v4) + f1).toNatClampNeg 999)) 83 (upd (S.1 83) (((8 : Int32) * v4) + f1).toNatClampNeg (S.1 76 2)))))
          else
            gd (¬ ((((8 : Int32) * v4) + f1) < 0 ∨ 48 ≤ (((8 : Int32) * v4) + f1).toNatClampNeg)) (
              gd (¬ ((((8 : Int32) * v4) + f1) < 0 ∨ 48 ≤ (((8 : Int32) * v4) + f1).toNatClampNeg)) (
                gd (¬ ((((8 : Int32) * v4) + f1) < 0 ∨ 48 ≤ (((8 : Int32) * v4) + f1).toNatClampNeg)) (
                  lp_X12_tells_10 f1 f2 f3 n (v4 + 1) (sA (sA S 82 (upd (S.1 82) (((8 : Int32) * v4) + f1).toNatClampNeg (((S.1 82) (((8 : Int32) * v4) + f1).toNatClampNeg) + 1))) 83 (upd (S.1 83) (((8 : Int32) * v4) + f1).toNatClampNeg (S.1 76 2)))))))
set_option maxRecDepth 20000 in
set_option maxHeartbeats 4000000 in
theorem e_lp_X12_tells_10 (d : Nat) (hs : List Hr) (P : Option Value → Hp → Prop) (f1 : Int32) (f2 : Int32) (f3 : Int32) : ∀ (n : Nat) (v4 : Int32) (S : St) (q : St), lp_X12_tells_10 f1 f2 f3 n v4 S = some q → (WM mi_X12_tells (d + 6) P 104 [some (.ref 76), some (.int f1), some (.int f2), some (.int f3), none] [] (st q hs)) → WM mi_X12_tells (d + 6) P 10 [some (.ref 76), some (.int f1), some (.int f2), some (.int f3), some (.int v4)] [] (st S hs) := by
  intro n
  induction n with
  | zero =>
    intro v4 S q hl
    cases hl
  | succ n ih =>
    intro v4 S q hl ct
    rw [lp_X12_tells_10] at hl
    refine Wp.stepsG 4 (fun cal X P' hk hX hP => ?_)
    show ((S.1 76 1) ≤ v4 → X (104, [some (.ref 76), some (.int f1), some (.int f2), some (.int f3), some (.int v4)], [], st S hs, 0, 0)) ∧ (¬ (S.1 76 1) ≤ v4 → X (19, [some (.ref 76), some (.int f1), some (.int f2), some (.int f3), some (.int v4)], [], st S hs, 0, 0))
    refine ⟨fun hc => hX _ ?_, fun hc => hX _ ?_⟩
    · clear hP hX hk P' X cal
      rw [if_pos hc] at hl
      have hl := Option.some.inj hl
      subst hl
      exact Wp.weak (leL.k (leL.k (leL.k (leL.k (leL.n leL.z))))) (ct)
    · clear hP hX hk P' X cal
      rw [if_neg hc] at hl
      refine Wp.stepsG 4 (fun cal X P' hk hX hP => ?_)
      show kcall cal ix_X12_has [.ref 76, .int f2, .int v4] (st S hs) [] 0 0 (0, 0) (fun v σ' c' m' => X (26, [some (.ref 76), some (.int f1), some (.int f2), some (.int f3), some (.int v4)], v.toList ++ [], σ', c', m'))
      refine kcall0 rfl (hk _ _ _ _ _ _ (e_X12_has (d + 5) S hs f2 v4 _ ?_))
      show X (26, [some (.ref 76), some (.int f1), some (.int f2), some (.int f3), some (.int v4)], [.int (r_X12_has f2 v4)], st S hs, 0, 0)
      refine hX _ ?_
      clear hP hX hk P' X cal
      refine Wp.stepsG 1 (fun cal X P' hk hX hP => ?_)
      show (¬ (r_X12_has f2 v4) = 0 → X (32, [some (.ref 76), some (.int f1), some (.int f2), some (.int f3), some (.int v4)], [], st S hs, 0, 0)) ∧ ((r_X12_has f2 v4) = 0 → X (29, [some (.ref 76), some (.int f1), some (.int f2), some (.int f3), some (.int v4)], [], st S hs, 0, 0))
      refine ⟨fun hc => hX _ ?_, fun hc => hX _ ?_⟩
      · clear hP hX hk P' X cal
        rw [if_neg hc] at hl
        refine Wp.stepsG 15 (fun cal X P' hk hX hP => ?_)
        show vp_in (((8 : Int32) * v4) + f1) 48 ∧ X (55, [some (.ref 76), some (.int f1), some (.int f2), some (.int f3), some (.int v4)], [.int ((S.1 82) (((8 : Int32) * v4) + f1).toNatClampNeg), .int (((8 : Int32) * v4) + f1), .ref 82], st S hs, 0, 0)
        obtain ⟨hg, hl⟩ := gd_some hl
        refine ⟨hg, hX _ ?_⟩
        clear hP hX hk P' X cal
        refine Wp.stepsG 2 (fun cal X P' hk hX hP => ?_)
        show (999 ≤ ((S.1 82) (((8 : Int32) * v4) + f1).toNatClampNeg) → X (78, [some (.ref 76), some (.int f1), some (.int f2), some (.int f3), some (.int v4)], [.int (((8 : Int32) * v4) + f1), .ref 82], st S hs, 0, 0)) ∧ (¬ 999 ≤ ((S.1 82) (((8 : Int32) * v4) + f1).toNatClampNeg) → X (61, [some (.ref 76), some (.int f1), some (.int f2), some (.int f3), some (.int v4)], [.int (((8 : Int32) * v4) + f1), .ref 82], st S hs, 0, 0))
        refine ⟨fun hc => hX _ ?_, fun hc => hX _ ?_⟩
        · clear hP hX hk P' X cal
          rw [if_pos hc] at hl
          refine Wp.stepsG 2 (fun cal X P' hk hX hP => ?_)
          show vp_in (((8 : Int32) * v4) + f1) 48 ∧ X (82, [some (.ref 76), some (.int f1), some (.int f2), some (.int f3), some (.int v4)], [], st (sA S 82 (upd (S.1 82) (((8 : Int32) * v4) + f1).toNatClampNeg 999)) hs, 0, 0)
          obtain ⟨hg, hl⟩ := gd_some hl
          refine ⟨hg, hX _ ?_⟩
          clear hP hX hk P' X cal
          refine Wp.stepsG 10 (fun cal X P' hk hX hP => ?_)
          show vp_in (((8 : Int32) * v4) + f1) 48 ∧ X (98, [some (.ref 76), some (.int f1), some (.int f2), some (.int f3), some (.int v4)], [], st (sA (sA S 82 (upd (S.1 82) (((8 : Int32) * v4) + f1).toNatClampNeg 999)) 83 (upd (S.1 83) (((8 : Int32) * v4) + f1).toNatClampNeg (S.1 76 2))) hs, 0, 0)
          obtain ⟨hg, hl⟩ := gd_some hl
          refine ⟨hg, hX _ ?_⟩
          clear hP hX hk P' X cal
          refine Wp.stepsG 2 (fun cal X P' hk hX hP => ?_)
          show X (10, [some (.ref 76), some (.int f1), some (.int f2), some (.int f3), some (.int (v4 + 1))], [], st (sA (sA S 82 (upd (S.1 82) (((8 : Int32) * v4) + f1).toNatClampNeg 999)) 83 (upd (S.1 83) (((8 : Int32) * v4) + f1).toNatClampNeg (S.1 76 2))) hs, 0, 0)
          refine hX _ ?_
          exact (ih (v4 + 1) (sA (sA S 82 (upd (S.1 82) (((8 : Int32) * v4) + f1).toNatClampNeg 999)) 83 (upd (S.1 83) (((8 : Int32) * v4) + f1).toNatClampNeg (S.1 76 2))) q hl ct)
        · clear hP hX hk P' X cal
          rw [if_neg hc] at hl
          refine Wp.stepsG 8 (fun cal X P' hk hX hP => ?_)
          show vp_in (((8 : Int32) * v4) + f1) 48 ∧ X (73, [some (.ref 76), some (.int f1), some (.int f2), some (.int f3), some (.int v4)], [.int ((S.1 82) (((8 : Int32) * v4) + f1).toNatClampNeg), .int (((8 : Int32) * v4) + f1), .ref 82], st S hs, 0, 0)
          obtain ⟨hg, hl⟩ := gd_some hl
          refine ⟨hg, hX _ ?_⟩
          clear hP hX hk P' X cal
          refine Wp.stepsG 4 (fun cal X P' hk hX hP => ?_)
          show vp_in (((8 : Int32) * v4) + f1) 48 ∧ X (82, [some (.ref 76), some (.int f1), some (.int f2), some (.int f3), some (.int v4)], [], st (sA S 82 (upd (S.1 82) (((8 : Int32) * v4) + f1).toNatClampNeg (((S.1 82) (((8 : Int32) * v4) + f1).toNatClampNeg) + 1))) hs, 0, 0)
          obtain ⟨hg, hl⟩ := gd_some hl
          refine ⟨hg, hX _ ?_⟩
          clear hP hX hk P' X cal
          refine Wp.stepsG 10 (fun cal X P' hk hX hP => ?_)
          show vp_in (((8 : Int32) * v4) + f1) 48 ∧ X (98, [some (.ref 76), some (.int f1), some (.int f2), some (.int f3), some (.int v4)], [], st (sA (sA S 82 (upd (S.1 82) (((8 : Int32) * v4) + f1).toNatClampNeg (((S.1 82) (((8 : Int32) * v4) + f1).toNatClampNeg) + 1))) 83 (upd (S.1 83) (((8 : Int32) * v4) + f1).toNatClampNeg (S.1 76 2))) hs, 0, 0)
          obtain ⟨hg, hl⟩ := gd_some hl
          refine ⟨hg, hX _ ?_⟩
          clear hP hX hk P' X cal
          refine Wp.stepsG 2 (fun cal X P' hk hX hP => ?_)
          show X (10, [some (.ref 76), some (.int f1), some (.int f2), some (.int f3), some (.int (v4 + 1))], [], st (sA (sA S 82 (upd (S.1 82) (((8 : Int32) * v4) + f1).toNatClampNeg (((S.1 82) (((8 : Int32) * v4) + f1).toNatClampNeg) + 1))) 83 (upd (S.1 83) (((8 : Int32) * v4) + f1).toNatClampNeg (S.1 76 2))) hs, 0, 0)
          refine hX _ ?_
          exact (ih (v4 + 1) (sA (sA S 82 (upd (S.1 82) (((8 : Int32) * v4) + f1).toNatClampNeg (((S.1 82) (((8 : Int32) * v4) + f1).toNatClampNeg) + 1))) 83 (upd (S.1 83) (((8 : Int32) * v4) + f1).toNatClampNeg (S.1 76 2))) q hl ct)
      · clear hP hX hk P' X cal
        rw [if_pos hc] at hl
        refine Wp.stepsG 3 (fun cal X P' hk hX hP => ?_)
        show X (10, [some (.ref 76), some (.int f1), some (.int f2), some (.int f3), some (.int (v4 + 1))], [], st S hs, 0, 0)
        refine hX _ ?_
        exact (ih (v4 + 1) S q hl ct)
def r_X12_tells (S : St) (a1 : Int32) (a2 : Int32) : Option (Int32 × St) :=
  (r_X12_laughter S a1 a2).bind fun q1 =>
  (lp_X12_tells_10 a1 a2 q1.1 4000 0 q1.2).bind fun q2 =>
    some (q1.1, q2)
set_option maxRecDepth 20000 in
set_option maxHeartbeats 4000000 in
theorem e_X12_tells (d : Nat) (S : St) (hs : List Hr) (a1 : Int32) (a2 : Int32) (v : Int32 × St) (hr : r_X12_tells S a1 a2 = some v) (P : Option Value → Hp → Prop) (h : P (some (.int v.1)) (st v.2 hs)) : Ev (d + 7) ix_X12_tells 0 0 [.ref 76, .int a1, .int a2] (st S hs) P := by
  refine Ev.intro (M := mi_X12_tells) rfl (Nat.le_of_ble_eq_true rfl) ?_
  unfold r_X12_tells at hr
  refine Wp.stepsG 4 (fun cal X P' hk hX hP => ?_)
  show kcall cal ix_X12_laughter [.ref 76, .int a1, .int a2] (st S hs) [] 0 0 (0, 0) (fun v σ' c' m' => X (6, [some (.ref 76), some (.int a1), some (.int a2), none, none], v.toList ++ [], σ', c', m'))
  obtain ⟨q1, hq1, hr⟩ := bd_some hr
  refine kcall0 rfl (hk _ _ _ _ _ _ (e_X12_laughter (d + 0) S hs a1 a2 q1 hq1 _ ?_))
  show X (6, [some (.ref 76), some (.int a1), some (.int a2), none, none], [.int q1.1], st q1.2 hs, 0, 0)
  refine hX _ ?_
  clear hP hX hk P' X cal
  refine Wp.stepsG 3 (fun cal X P' hk hX hP => ?_)
  show X (10, [some (.ref 76), some (.int a1), some (.int a2), some (.int q1.1), some (.int 0)], [], st q1.2 hs, 0, 0)
  refine hX _ ?_
  clear hP hX hk P' X cal
  obtain ⟨q2, hq2, hr⟩ := bd_some hr
  refine (e_lp_X12_tells_10 d hs P a1 a2 q1.1 _ 0 q1.2 q2 hq2 ?_)
  have hr := Option.some.inj hr
  subst hr
  refine Wp.stepsG 2 (fun cal X P' hk hX hP => ?_)
  exact hP _ _ h
def r_X12_tell (S : St) (a1 : Int32) (a2 : Int32) : Option (Int32 × St) :=
  if (r_X12_isStory S a1) = 0 then
    some ((-10001), S)
  else
    if (r_X12_isTable S a2) = 0 then
      some ((-10002), S)
    else
      (r_X12_tells S a1 a2).bind fun q1 =>
      some (q1.1, q1.2)
set_option maxRecDepth 20000 in
set_option maxHeartbeats 4000000 in
theorem e_X12_tell (d : Nat) (S : St) (hs : List Hr) (a1 : Int32) (a2 : Int32) (v : Int32 × St) (hr : r_X12_tell S a1 a2 = some v) (P : Option Value → Hp → Prop) (h : P (some (.int v.1)) (st v.2 hs)) : Ev (d + 8) ix_X12_tell 0 0 [.ref 76, .int a1, .int a2] (st S hs) P := by
  refine Ev.intro (M := mi_X12_tell) rfl (Nat.le_of_ble_eq_true rfl) ?_
  unfold r_X12_tell at hr
  refine Wp.stepsG 3 (fun cal X P' hk hX hP => ?_)
  show kcall cal ix_X12_isStory [.ref 76, .int a1] (st S hs) [] 0 0 (0, 0) (fun v σ' c' m' => X (5, [some (.ref 76), some (.int a1), some (.int a2)], v.toList ++ [], σ', c', m'))
  refine kcall0 rfl (hk _ _ _ _ _ _ (e_X12_isStory (d + 5) S hs a1 _ ?_))
  show X (5, [some (.ref 76), some (.int a1), some (.int a2)], [.int (r_X12_isStory S a1)], st S hs, 0, 0)
  refine hX _ ?_
  clear hP hX hk P' X cal
  refine Wp.stepsG 1 (fun cal X P' hk hX hP => ?_)
  show (¬ (r_X12_isStory S a1) = 0 → X (14, [some (.ref 76), some (.int a1), some (.int a2)], [], st S hs, 0, 0)) ∧ ((r_X12_isStory S a1) = 0 → X (8, [some (.ref 76), some (.int a1), some (.int a2)], [], st S hs, 0, 0))
  refine ⟨fun hc => hX _ ?_, fun hc => hX _ ?_⟩
  · clear hP hX hk P' X cal
    rw [if_neg hc] at hr
    refine Wp.stepsG 3 (fun cal X P' hk hX hP => ?_)
    show kcall cal ix_X12_isTable [.ref 76, .int a2] (st S hs) [] 0 0 (0, 0) (fun v σ' c' m' => X (19, [some (.ref 76), some (.int a1), some (.int a2)], v.toList ++ [], σ', c', m'))
    refine kcall0 rfl (hk _ _ _ _ _ _ (e_X12_isTable (d + 5) S hs a2 _ ?_))
    show X (19, [some (.ref 76), some (.int a1), some (.int a2)], [.int (r_X12_isTable S a2)], st S hs, 0, 0)
    refine hX _ ?_
    clear hP hX hk P' X cal
    refine Wp.stepsG 1 (fun cal X P' hk hX hP => ?_)
    show (¬ (r_X12_isTable S a2) = 0 → X (28, [some (.ref 76), some (.int a1), some (.int a2)], [], st S hs, 0, 0)) ∧ ((r_X12_isTable S a2) = 0 → X (22, [some (.ref 76), some (.int a1), some (.int a2)], [], st S hs, 0, 0))
    refine ⟨fun hc => hX _ ?_, fun hc => hX _ ?_⟩
    · clear hP hX hk P' X cal
      rw [if_neg hc] at hr
      refine Wp.stepsG 4 (fun cal X P' hk hX hP => ?_)
      show kcall cal ix_X12_tells [.ref 76, .int a1, .int a2] (st S hs) [] 0 0 (0, 0) (fun v σ' c' m' => X (34, [some (.ref 76), some (.int a1), some (.int a2)], v.toList ++ [], σ', c', m'))
      obtain ⟨q1, hq1, hr⟩ := bd_some hr
      refine kcall0 rfl (hk _ _ _ _ _ _ (e_X12_tells (d + 0) S hs a1 a2 q1 hq1 _ ?_))
      show X (34, [some (.ref 76), some (.int a1), some (.int a2)], [.int q1.1], st q1.2 hs, 0, 0)
      refine hX _ ?_
      clear hP hX hk P' X cal
      have hr := Option.some.inj hr
      subst hr
      refine Wp.stepsG 1 (fun cal X P' hk hX hP => ?_)
      exact hP _ _ h
    · clear hP hX hk P' X cal
      rw [if_pos hc] at hr
      have hr := Option.some.inj hr
      subst hr
      refine Wp.stepsG 3 (fun cal X P' hk hX hP => ?_)
      exact hP _ _ h
  · clear hP hX hk P' X cal
    rw [if_pos hc] at hr
    have hr := Option.some.inj hr
    subst hr
    refine Wp.stepsG 3 (fun cal X P' hk hX hP => ?_)
    exact hP _ _ h
def r_X12_laugh (S : St) (a1 : Int32) (a2 : Int32) : Option (Int32 × St) :=
  if (r_X12_isHearer S a1) = 0 then
    some ((-10001), S)
  else
    if (r_X12_isStory S a2) = 0 then
      some ((-10001), S)
    else
      (r_X12_laughOf S a1 a2).bind fun q1 =>
      some (q1.1, q1.2)
set_option maxRecDepth 20000 in
set_option maxHeartbeats 4000000 in
theorem e_X12_laugh (d : Nat) (S : St) (hs : List Hr) (a1 : Int32) (a2 : Int32) (v : Int32 × St) (hr : r_X12_laugh S a1 a2 = some v) (P : Option Value → Hp → Prop) (h : P (some (.int v.1)) (st v.2 hs)) : Ev (d + 6) ix_X12_laugh 0 0 [.ref 76, .int a1, .int a2] (st S hs) P := by
  refine Ev.intro (M := mi_X12_laugh) rfl (Nat.le_of_ble_eq_true rfl) ?_
  unfold r_X12_laugh at hr
  refine Wp.stepsG 3 (fun cal X P' hk hX hP => ?_)
  show kcall cal ix_X12_isHearer [.ref 76, .int a1] (st S hs) [] 0 0 (0, 0) (fun v σ' c' m' => X (5, [some (.ref 76), some (.int a1), some (.int a2)], v.toList ++ [], σ', c', m'))
  refine kcall0 rfl (hk _ _ _ _ _ _ (e_X12_isHearer (d + 3) S hs a1 _ ?_))
  show X (5, [some (.ref 76), some (.int a1), some (.int a2)], [.int (r_X12_isHearer S a1)], st S hs, 0, 0)
  refine hX _ ?_
  clear hP hX hk P' X cal
  refine Wp.stepsG 1 (fun cal X P' hk hX hP => ?_)
  show ((r_X12_isHearer S a1) = 0 → X (25, [some (.ref 76), some (.int a1), some (.int a2)], [], st S hs, 0, 0)) ∧ (¬ (r_X12_isHearer S a1) = 0 → X (8, [some (.ref 76), some (.int a1), some (.int a2)], [], st S hs, 0, 0))
  refine ⟨fun hc => hX _ ?_, fun hc => hX _ ?_⟩
  · clear hP hX hk P' X cal
    rw [if_pos hc] at hr
    have hr := Option.some.inj hr
    subst hr
    refine Wp.stepsG 2 (fun cal X P' hk hX hP => ?_)
    exact hP _ _ h
  · clear hP hX hk P' X cal
    rw [if_neg hc] at hr
    refine Wp.stepsG 3 (fun cal X P' hk hX hP => ?_)
    show kcall cal ix_X12_isStory [.ref 76, .int a2] (st S hs) [] 0 0 (0, 0) (fun v σ' c' m' => X (13, [some (.ref 76), some (.int a1), some (.int a2)], v.toList ++ [], σ', c', m'))
    refine kcall0 rfl (hk _ _ _ _ _ _ (e_X12_isStory (d + 3) S hs a2 _ ?_))
    show X (13, [some (.ref 76), some (.int a1), some (.int a2)], [.int (r_X12_isStory S a2)], st S hs, 0, 0)
    refine hX _ ?_
    clear hP hX hk P' X cal
    refine Wp.stepsG 1 (fun cal X P' hk hX hP => ?_)
    show ((r_X12_isStory S a2) = 0 → X (25, [some (.ref 76), some (.int a1), some (.int a2)], [], st S hs, 0, 0)) ∧ (¬ (r_X12_isStory S a2) = 0 → X (16, [some (.ref 76), some (.int a1), some (.int a2)], [], st S hs, 0, 0))
    refine ⟨fun hc => hX _ ?_, fun hc => hX _ ?_⟩
    · clear hP hX hk P' X cal
      rw [if_pos hc] at hr
      have hr := Option.some.inj hr
      subst hr
      refine Wp.stepsG 2 (fun cal X P' hk hX hP => ?_)
      exact hP _ _ h
    · clear hP hX hk P' X cal
      rw [if_neg hc] at hr
      refine Wp.stepsG 4 (fun cal X P' hk hX hP => ?_)
      show kcall cal ix_X12_laughOf [.ref 76, .int a1, .int a2] (st S hs) [] 0 0 (0, 0) (fun v σ' c' m' => X (22, [some (.ref 76), some (.int a1), some (.int a2)], v.toList ++ [], σ', c', m'))
      obtain ⟨q1, hq1, hr⟩ := bd_some hr
      refine kcall0 rfl (hk _ _ _ _ _ _ (e_X12_laughOf (d + 0) S hs a1 a2 q1 hq1 _ ?_))
      show X (22, [some (.ref 76), some (.int a1), some (.int a2)], [.int q1.1], st q1.2 hs, 0, 0)
      refine hX _ ?_
      clear hP hX hk P' X cal
      have hr := Option.some.inj hr
      subst hr
      refine Wp.stepsG 2 (fun cal X P' hk hX hP => ?_)
      exact hP _ _ h
def r_X12_would (S : St) (a1 : Int32) (a2 : Int32) (a3 : Int32) : Option (Int32 × St) :=
  if (r_X12_isStory S a1) = 0 then
    some ((-10001), S)
  else
    if (r_X12_in a3 0 1) = 0 then
      some ((-10001), S)
    else
      if (r_X12_isTable S a2) = 0 then
        some ((-10002), S)
      else
        if a3 = 0 then
          (r_X12_laughter S a1 a2).bind fun q3 =>
          some (q3.1, q3.2)
        else
          (r_X12_knowing S a1 a2).bind fun q1 =>
          (r_X12_ones q1).bind fun q2 =>
          some (q2, S)
set_option maxRecDepth 20000 in
set_option maxHeartbeats 4000000 in
theorem e_X12_would (d : Nat) (S : St) (hs : List Hr) (a1 : Int32) (a2 : Int32) (a3 : Int32) (v : Int32 × St) (hr : r_X12_would S a1 a2 a3 = some v) (P : Option Value → Hp → Prop) (h : P (some (.int v.1)) (st v.2 hs)) : Ev (d + 7) ix_X12_would 0 0 [.ref 76, .int a1, .int a2, .int a3] (st S hs) P := by
  refine Ev.intro (M := mi_X12_would) rfl (Nat.le_of_ble_eq_true rfl) ?_
  unfold r_X12_would at hr
  refine Wp.stepsG 3 (fun cal X P' hk hX hP => ?_)
  show kcall cal ix_X12_isStory [.ref 76, .int a1] (st S hs) [] 0 0 (0, 0) (fun v σ' c' m' => X (5, [some (.ref 76), some (.int a1), some (.int a2), some (.int a3)], v.toList ++ [], σ', c', m'))
  refine kcall0 rfl (hk _ _ _ _ _ _ (e_X12_isStory (d + 4) S hs a1 _ ?_))
  show X (5, [some (.ref 76), some (.int a1), some (.int a2), some (.int a3)], [.int (r_X12_isStory S a1)], st S hs, 0, 0)
  refine hX _ ?_
  clear hP hX hk P' X cal
  refine Wp.stepsG 1 (fun cal X P' hk hX hP => ?_)
  show ((r_X12_isStory S a1) = 0 → X (18, [some (.ref 76), some (.int a1), some (.int a2), some (.int a3)], [], st S hs, 0, 0)) ∧ (¬ (r_X12_isStory S a1) = 0 → X (8, [some (.ref 76), some (.int a1), some (.int a2), some (.int a3)], [], st S hs, 0, 0))
  refine ⟨fun hc => hX _ ?_, fun hc => hX _ ?_⟩
  · clear hP hX hk P' X cal
    rw [if_pos hc] at hr
    have hr := Option.some.inj hr
    subst hr
    refine Wp.stepsG 2 (fun cal X P' hk hX hP => ?_)
    exact hP _ _ h
  · clear hP hX hk P' X cal
    rw [if_neg hc] at hr
    refine Wp.stepsG 5 (fun cal X P' hk hX hP => ?_)
    show kcall cal ix_X12_in [.ref 76, .int a3, .int 0, .int 1] (st S hs) [] 0 0 (0, 0) (fun v σ' c' m' => X (15, [some (.ref 76), some (.int a1), some (.int a2), some (.int a3)], v.toList ++ [], σ', c', m'))
    refine kcall0 rfl (hk _ _ _ _ _ _ (e_X12_in (d + 5) S hs a3 0 1 _ ?_))
    show X (15, [some (.ref 76), some (.int a1), some (.int a2), some (.int a3)], [.int (r_X12_in a3 0 1)], st S hs, 0, 0)
    refine hX _ ?_
    clear hP hX hk P' X cal
    refine Wp.stepsG 1 (fun cal X P' hk hX hP => ?_)
    show (¬ (r_X12_in a3 0 1) = 0 → X (22, [some (.ref 76), some (.int a1), some (.int a2), some (.int a3)], [], st S hs, 0, 0)) ∧ ((r_X12_in a3 0 1) = 0 → X (18, [some (.ref 76), some (.int a1), some (.int a2), some (.int a3)], [], st S hs, 0, 0))
    refine ⟨fun hc => hX _ ?_, fun hc => hX _ ?_⟩
    · clear hP hX hk P' X cal
      rw [if_neg hc] at hr
      refine Wp.stepsG 3 (fun cal X P' hk hX hP => ?_)
      show kcall cal ix_X12_isTable [.ref 76, .int a2] (st S hs) [] 0 0 (0, 0) (fun v σ' c' m' => X (27, [some (.ref 76), some (.int a1), some (.int a2), some (.int a3)], v.toList ++ [], σ', c', m'))
      refine kcall0 rfl (hk _ _ _ _ _ _ (e_X12_isTable (d + 4) S hs a2 _ ?_))
      show X (27, [some (.ref 76), some (.int a1), some (.int a2), some (.int a3)], [.int (r_X12_isTable S a2)], st S hs, 0, 0)
      refine hX _ ?_
      clear hP hX hk P' X cal
      refine Wp.stepsG 1 (fun cal X P' hk hX hP => ?_)
      show (¬ (r_X12_isTable S a2) = 0 → X (34, [some (.ref 76), some (.int a1), some (.int a2), some (.int a3)], [], st S hs, 0, 0)) ∧ ((r_X12_isTable S a2) = 0 → X (30, [some (.ref 76), some (.int a1), some (.int a2), some (.int a3)], [], st S hs, 0, 0))
      refine ⟨fun hc => hX _ ?_, fun hc => hX _ ?_⟩
      · clear hP hX hk P' X cal
        rw [if_neg hc] at hr
        refine Wp.stepsG 2 (fun cal X P' hk hX hP => ?_)
        show (¬ a3 = 0 → X (47, [some (.ref 76), some (.int a1), some (.int a2), some (.int a3)], [], st S hs, 0, 0)) ∧ (a3 = 0 → X (38, [some (.ref 76), some (.int a1), some (.int a2), some (.int a3)], [], st S hs, 0, 0))
        refine ⟨fun hc => hX _ ?_, fun hc => hX _ ?_⟩
        · clear hP hX hk P' X cal
          rw [if_neg hc] at hr
          refine Wp.stepsG 5 (fun cal X P' hk hX hP => ?_)
          show kcall cal ix_X12_knowing [.ref 76, .int a1, .int a2] (st S hs) [.ref 76] 0 0 (0, 0) (fun v σ' c' m' => X (54, [some (.ref 76), some (.int a1), some (.int a2), some (.int a3)], v.toList ++ [.ref 76], σ', c', m'))
          obtain ⟨q1, hq1, hr⟩ := bd_some hr
          refine kcall0 rfl (hk _ _ _ _ _ _ (e_X12_knowing (d + 1) S hs a1 a2 q1 hq1 _ ?_))
          show X (54, [some (.ref 76), some (.int a1), some (.int a2), some (.int a3)], [.int q1, .ref 76], st S hs, 0, 0)
          refine hX _ ?_
          clear hP hX hk P' X cal
          refine Wp.stepsG 1 (fun cal X P' hk hX hP => ?_)
          show kcall cal ix_X12_ones [.ref 76, .int q1] (st S hs) [] 0 0 (0, 0) (fun v σ' c' m' => X (57, [some (.ref 76), some (.int a1), some (.int a2), some (.int a3)], v.toList ++ [], σ', c', m'))
          obtain ⟨q2, hq2, hr⟩ := bd_some hr
          refine kcall0 rfl (hk _ _ _ _ _ _ (e_X12_ones (d + 5) S hs q1 q2 hq2 _ ?_))
          show X (57, [some (.ref 76), some (.int a1), some (.int a2), some (.int a3)], [.int q2], st S hs, 0, 0)
          refine hX _ ?_
          clear hP hX hk P' X cal
          have hr := Option.some.inj hr
          subst hr
          refine Wp.stepsG 1 (fun cal X P' hk hX hP => ?_)
          exact hP _ _ h
        · clear hP hX hk P' X cal
          rw [if_pos hc] at hr
          refine Wp.stepsG 4 (fun cal X P' hk hX hP => ?_)
          show kcall cal ix_X12_laughter [.ref 76, .int a1, .int a2] (st S hs) [] 0 0 (0, 0) (fun v σ' c' m' => X (44, [some (.ref 76), some (.int a1), some (.int a2), some (.int a3)], v.toList ++ [], σ', c', m'))
          obtain ⟨q3, hq3, hr⟩ := bd_some hr
          refine kcall0 rfl (hk _ _ _ _ _ _ (e_X12_laughter (d + 0) S hs a1 a2 q3 hq3 _ ?_))
          show X (44, [some (.ref 76), some (.int a1), some (.int a2), some (.int a3)], [.int q3.1], st q3.2 hs, 0, 0)
          refine hX _ ?_
          clear hP hX hk P' X cal
          have hr := Option.some.inj hr
          subst hr
          refine Wp.stepsG 2 (fun cal X P' hk hX hP => ?_)
          exact hP _ _ h
      · clear hP hX hk P' X cal
        rw [if_pos hc] at hr
        have hr := Option.some.inj hr
        subst hr
        refine Wp.stepsG 2 (fun cal X P' hk hX hP => ?_)
        exact hP _ _ h
    · clear hP hX hk P' X cal
      rw [if_pos hc] at hr
      have hr := Option.some.inj hr
      subst hr
      refine Wp.stepsG 2 (fun cal X P' hk hX hP => ?_)
      exact hP _ _ h
def lp_X12_bestOf_7 (f1 : Int32) : Nat → Int32 → Int32 → Int32 → St → Option (Int32 × St)
  | 0, _, _, _, _ => none
  | n + 1, v2, v3, v4, S =>
    if (S.1 76 0) ≤ v4 then
      some (v2, S)
    else
      if (r_X12_has (S.1 76 28) v4) = 0 then
        (r_X12_laughter S v4 f1).bind fun q1 =>
        if v2 < 0 then
          lp_X12_bestOf_7 f1 n v4 q1.1 (v4 + 1) q1.2
        else
          if v3 < q1.1 then
            lp_X12_bestOf_7 f1 n v4 q1.1 (v4 + 1) q1.2
          else
            lp_X12_bestOf_7 f1 n v2 v3 (v4 + 1) q1.2
      else
        lp_X12_bestOf_7 f1 n v2 v3 (v4 + 1) S
set_option maxRecDepth 20000 in
set_option maxHeartbeats 4000000 in
theorem e_lp_X12_bestOf_7 (d : Nat) (hs : List Hr) (P : Option Value → Hp → Prop) (f1 : Int32) : ∀ (n : Nat) (v2 : Int32) (v3 : Int32) (v4 : Int32) (S : St) (q : Int32 × St), lp_X12_bestOf_7 f1 n v2 v3 v4 S = some q → (WM mi_X12_bestOf (d + 6) P 66 [some (.ref 76), some (.int f1), some (.int q.1), none, none, none] [] (st q.2 hs)) → WM mi_X12_bestOf (d + 6) P 7 [some (.ref 76), some (.int f1), some (.int v2), some (.int v3), some (.int v4), none] [] (st S hs) := by
  intro n
  induction n with
  | zero =>
    intro v2 v3 v4 S q hl
    cases hl
  | succ n ih =>
    intro v2 v3 v4 S q hl ct
    rw [lp_X12_bestOf_7] at hl
    refine Wp.stepsG 4 (fun cal X P' hk hX hP => ?_)
    show ((S.1 76 0) ≤ v4 → X (66, [some (.ref 76), some (.int f1), some (.int v2), some (.int v3), some (.int v4), none], [], st S hs, 0, 0)) ∧ (¬ (S.1 76 0) ≤ v4 → X (16, [some (.ref 76), some (.int f1), some (.int v2), some (.int v3), some (.int v4), none], [], st S hs, 0, 0))
    refine ⟨fun hc => hX _ ?_, fun hc => hX _ ?_⟩
    · clear hP hX hk P' X cal
      rw [if_pos hc] at hl
      have hl := Option.some.inj hl
      subst hl
      exact Wp.weak (leL.k (leL.k (leL.k (leL.n (leL.n (leL.k leL.z)))))) (ct)
    · clear hP hX hk P' X cal
      rw [if_neg hc] at hl
      refine Wp.stepsG 5 (fun cal X P' hk hX hP => ?_)
      show kcall cal ix_X12_has [.ref 76, .int (S.1 76 28), .int v4] (st S hs) [] 0 0 (0, 0) (fun v σ' c' m' => X (26, [some (.ref 76), some (.int f1), some (.int v2), some (.int v3), some (.int v4), none], v.toList ++ [], σ', c', m'))
      refine kcall0 rfl (hk _ _ _ _ _ _ (e_X12_has (d + 5) S hs (S.1 76 28) v4 _ ?_))
      show X (26, [some (.ref 76), some (.int f1), some (.int v2), some (.int v3), some (.int v4), none], [.int (r_X12_has (S.1 76 28) v4)], st S hs, 0, 0)
      refine hX _ ?_
      clear hP hX hk P' X cal
      refine Wp.stepsG 1 (fun cal X P' hk hX hP => ?_)
      show ((r_X12_has (S.1 76 28) v4) = 0 → X (32, [some (.ref 76), some (.int f1), some (.int v2), some (.int v3), some (.int v4), none], [], st S hs, 0, 0)) ∧ (¬ (r_X12_has (S.1 76 28) v4) = 0 → X (29, [some (.ref 76), some (.int f1), some (.int v2), some (.int v3), some (.int v4), none], [], st S hs, 0, 0))
      refine ⟨fun hc => hX _ ?_, fun hc => hX _ ?_⟩
      · clear hP hX hk P' X cal
        rw [if_pos hc] at hl
        refine Wp.stepsG 4 (fun cal X P' hk hX hP => ?_)
        show kcall cal ix_X12_laughter [.ref 76, .int v4, .int f1] (st S hs) [] 0 0 (0, 0) (fun v σ' c' m' => X (39, [some (.ref 76), some (.int f1), some (.int v2), some (.int v3), some (.int v4), none], v.toList ++ [], σ', c', m'))
        obtain ⟨q1, hq1, hl⟩ := bd_some hl
        refine kcall0 rfl (hk _ _ _ _ _ _ (e_X12_laughter (d + 0) S hs v4 f1 q1 hq1 _ ?_))
        show X (39, [some (.ref 76), some (.int f1), some (.int v2), some (.int v3), some (.int v4), none], [.int q1.1], st q1.2 hs, 0, 0)
        refine hX _ ?_
        clear hP hX hk P' X cal
        refine Wp.stepsG 3 (fun cal X P' hk hX hP => ?_)
        show (v2 < 0 → X (54, [some (.ref 76), some (.int f1), some (.int v2), some (.int v3), some (.int v4), some (.int q1.1)], [], st q1.2 hs, 0, 0)) ∧ (¬ v2 < 0 → X (45, [some (.ref 76), some (.int f1), some (.int v2), some (.int v3), some (.int v4), some (.int q1.1)], [], st q1.2 hs, 0, 0))
        refine ⟨fun hc => hX _ ?_, fun hc => hX _ ?_⟩
        · clear hP hX hk P' X cal
          rw [if_pos hc] at hl
          refine Wp.stepsG 6 (fun cal X P' hk hX hP => ?_)
          show X (7, [some (.ref 76), some (.int f1), some (.int v4), some (.int q1.1), some (.int (v4 + 1)), some (.int q1.1)], [], st q1.2 hs, 0, 0)
          refine hX _ ?_
          exact Wp.weak (leL.k (leL.k (leL.k (leL.k (leL.k (leL.n leL.z)))))) (ih v4 q1.1 (v4 + 1) q1.2 q hl ct)
        · clear hP hX hk P' X cal
          rw [if_neg hc] at hl
          refine Wp.stepsG 3 (fun cal X P' hk hX hP => ?_)
          show (v3 < q1.1 → X (54, [some (.ref 76), some (.int f1), some (.int v2), some (.int v3), some (.int v4), some (.int q1.1)], [], st q1.2 hs, 0, 0)) ∧ (¬ v3 < q1.1 → X (51, [some (.ref 76), some (.int f1), some (.int v2), some (.int v3), some (.int v4), some (.int q1.1)], [], st q1.2 hs, 0, 0))
          refine ⟨fun hc => hX _ ?_, fun hc => hX _ ?_⟩
          · clear hP hX hk P' X cal
            rw [if_pos hc] at hl
            refine Wp.stepsG 6 (fun cal X P' hk hX hP => ?_)
            show X (7, [some (.ref 76), some (.int f1), some (.int v4), some (.int q1.1), some (.int (v4 + 1)), some (.int q1.1)], [], st q1.2 hs, 0, 0)
            refine hX _ ?_
            exact Wp.weak (leL.k (leL.k (leL.k (leL.k (leL.k (leL.n leL.z)))))) (ih v4 q1.1 (v4 + 1) q1.2 q hl ct)
          · clear hP hX hk P' X cal
            rw [if_neg hc] at hl
            refine Wp.stepsG 3 (fun cal X P' hk hX hP => ?_)
            show X (7, [some (.ref 76), some (.int f1), some (.int v2), some (.int v3), some (.int (v4 + 1)), some (.int q1.1)], [], st q1.2 hs, 0, 0)
            refine hX _ ?_
            exact Wp.weak (leL.k (leL.k (leL.k (leL.k (leL.k (leL.n leL.z)))))) (ih v2 v3 (v4 + 1) q1.2 q hl ct)
      · clear hP hX hk P' X cal
        rw [if_neg hc] at hl
        refine Wp.stepsG 3 (fun cal X P' hk hX hP => ?_)
        show X (7, [some (.ref 76), some (.int f1), some (.int v2), some (.int v3), some (.int (v4 + 1)), none], [], st S hs, 0, 0)
        refine hX _ ?_
        exact (ih v2 v3 (v4 + 1) S q hl ct)
def r_X12_bestOf (S : St) (a1 : Int32) : Option (Int32 × St) :=
  (lp_X12_bestOf_7 a1 4000 (-1) 0 0 S).bind fun q2 =>
    some (q2.1, q2.2)
set_option maxRecDepth 20000 in
set_option maxHeartbeats 4000000 in
theorem e_X12_bestOf (d : Nat) (S : St) (hs : List Hr) (a1 : Int32) (v : Int32 × St) (hr : r_X12_bestOf S a1 = some v) (P : Option Value → Hp → Prop) (h : P (some (.int v.1)) (st v.2 hs)) : Ev (d + 7) ix_X12_bestOf 0 0 [.ref 76, .int a1] (st S hs) P := by
  refine Ev.intro (M := mi_X12_bestOf) rfl (Nat.le_of_ble_eq_true rfl) ?_
  unfold r_X12_bestOf at hr
  refine Wp.stepsG 6 (fun cal X P' hk hX hP => ?_)
  show X (7, [some (.ref 76), some (.int a1), some (.int (-1)), some (.int 0), some (.int 0), none], [], st S hs, 0, 0)
  refine hX _ ?_
  clear hP hX hk P' X cal
  obtain ⟨q2, hq2, hr⟩ := bd_some hr
  refine (e_lp_X12_bestOf_7 d hs P a1 _ (-1) 0 0 S q2 hq2 ?_)
  have hr := Option.some.inj hr
  subst hr
  refine Wp.stepsG 2 (fun cal X P' hk hX hP => ?_)
  exact hP _ _ h
