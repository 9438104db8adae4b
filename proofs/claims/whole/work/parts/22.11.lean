def r_X5_holds_33 (S : St) (o : Nat) (a1 : Int32) : Option Int32 :=
  gd (¬ (a1 < 0 ∨ 100 ≤ a1.toNatClampNeg)) (
    if 6 ≤ (((S.1 (o + 1)) a1.toNatClampNeg) / 3) then
      gd (¬ (a1 < 0 ∨ 100 ≤ a1.toNatClampNeg)) (
        if (((S.1 (o + 1)) a1.toNatClampNeg) - ((S.1 (o + 1)) a1.toNatClampNeg) / 3 * 3) = 0 then
          gd (¬ (a1 < 0 ∨ 100 ≤ a1.toNatClampNeg)) (
            if ((S.1 (o + 2)) a1.toNatClampNeg) ≤ (0 : Int32) then
              some 0
            else
              some 1)
        else
        if (((S.1 (o + 1)) a1.toNatClampNeg) - ((S.1 (o + 1)) a1.toNatClampNeg) / 3 * 3) = 1 then
          gd (¬ (a1 < 0 ∨ 100 ≤ a1.toNatClampNeg)) (
            if (0 : Int32) = ((S.1 (o + 2)) a1.toNatClampNeg) then
              some 1
            else
              some 0)
        else
          gd (¬ (a1 < 0 ∨ 100 ≤ a1.toNatClampNeg)) (
            if (0 : Int32) ≤ ((S.1 (o + 2)) a1.toNatClampNeg) then
              some 0
            else
              some 1))
    else
      gd (¬ ((((S.1 (o + 1)) a1.toNatClampNeg) / 3) < 0 ∨ 6 ≤ (((S.1 (o + 1)) a1.toNatClampNeg) / 3).toNatClampNeg)) (
        gd (¬ (a1 < 0 ∨ 100 ≤ a1.toNatClampNeg)) (
          if (((S.1 (o + 1)) a1.toNatClampNeg) - ((S.1 (o + 1)) a1.toNatClampNeg) / 3 * 3) = 0 then
            gd (¬ (a1 < 0 ∨ 100 ≤ a1.toNatClampNeg)) (
              if ((S.1 (o + 2)) a1.toNatClampNeg) ≤ ((S.1 33) (((S.1 (o + 1)) a1.toNatClampNeg) / 3).toNatClampNeg) then
                some 0
              else
                some 1)
          else
          if (((S.1 (o + 1)) a1.toNatClampNeg) - ((S.1 (o + 1)) a1.toNatClampNeg) / 3 * 3) = 1 then
            gd (¬ (a1 < 0 ∨ 100 ≤ a1.toNatClampNeg)) (
              if ((S.1 33) (((S.1 (o + 1)) a1.toNatClampNeg) / 3).toNatClampNeg) = ((S.1 (o + 2)) a1.toNatClampNeg) then
                some 1
              else
                some 0)
          else
            gd (¬ (a1 < 0 ∨ 100 ≤ a1.toNatClampNeg)) (
              if ((S.1 33) (((S.1 (o + 1)) a1.toNatClampNeg) / 3).toNatClampNeg) ≤ ((S.1 (o + 2)) a1.toNatClampNeg) then
                some 0
              else
                some 1))))
set_option maxRecDepth 20000 in
set_option maxHeartbeats 4000000 in
theorem e_X5_holds_33_40 (d : Nat) (S : St) (hs : List Hr) (a1 : Int32) (v : Int32) (hr : r_X5_holds_33 S 40 a1 = some v) (P : Option Value → Hp → Prop) (h : P (some (.int v)) (st S hs)) : Ev (d + 1) ix_X5_holds 0 0 [.ref 40, .int a1, .ref 33] (st S hs) P := by
  refine Ev.intro (M := mi_X5_holds) rfl (Nat.le_of_ble_eq_true rfl) ?_
  unfold r_X5_holds_33 at hr
  refine Wp.stepsG 4 (fun cal X P' hk hX hP => ?_)
  show vp_in a1 100 ∧ X (6, [some (.ref 40), some (.int a1), some (.ref 33), none, none], [.int ((S.1 41) a1.toNatClampNeg)], st S hs, 0, 0)
  obtain ⟨hg, hr⟩ := gd_some hr
  refine ⟨hg, hX _ ?_⟩
  clear hP hX hk P' X cal
  refine Wp.stepsG 2 (fun cal X P' hk hX hP => ?_)
  show ¬ (3 : Int32) = 0 ∧ X (8, [some (.ref 40), some (.int a1), some (.ref 33), none, none], [.int (((S.1 41) a1.toNatClampNeg) / 3)], st S hs, 0, 0)
  refine ⟨(show ¬ (3 : Int32) = 0 from by decide), hX _ ?_⟩
  clear hP hX hk P' X cal
  refine Wp.stepsG 5 (fun cal X P' hk hX hP => ?_)
  show (6 ≤ (((S.1 41) a1.toNatClampNeg) / 3) → X (21, [some (.ref 40), some (.int a1), some (.ref 33), some (.int (((S.1 41) a1.toNatClampNeg) / 3)), none], [], st S hs, 0, 0)) ∧ (¬ 6 ≤ (((S.1 41) a1.toNatClampNeg) / 3) → X (15, [some (.ref 40), some (.int a1), some (.ref 33), some (.int (((S.1 41) a1.toNatClampNeg) / 3)), none], [], st S hs, 0, 0))
  refine ⟨fun hc => hX _ ?_, fun hc => hX _ ?_⟩
  · clear hP hX hk P' X cal
    rw [if_pos hc] at hr
    refine Wp.stepsG 6 (fun cal X P' hk hX hP => ?_)
    show vp_in a1 100 ∧ X (30, [some (.ref 40), some (.int a1), some (.ref 33), some (.int (((S.1 41) a1.toNatClampNeg) / 3)), some (.int 0)], [.int ((S.1 41) a1.toNatClampNeg)], st S hs, 0, 0)
    obtain ⟨hg, hr⟩ := gd_some hr
    refine ⟨hg, hX _ ?_⟩
    clear hP hX hk P' X cal
    refine Wp.stepsG 2 (fun cal X P' hk hX hP => ?_)
    show ¬ (3 : Int32) = 0 ∧ X (32, [some (.ref 40), some (.int a1), some (.ref 33), some (.int (((S.1 41) a1.toNatClampNeg) / 3)), some (.int 0)], [.int (((S.1 41) a1.toNatClampNeg) - ((S.1 41) a1.toNatClampNeg) / 3 * 3)], st S hs, 0, 0)
    refine ⟨(show ¬ (3 : Int32) = 0 from by decide), hX _ ?_⟩
    clear hP hX hk P' X cal
    refine Wp.stepsG 1 (fun cal X P' hk hX hP => ?_)
    show ((((S.1 41) a1.toNatClampNeg) - ((S.1 41) a1.toNatClampNeg) / 3 * 3) = 0 → X (60, [some (.ref 40), some (.int a1), some (.ref 33), some (.int (((S.1 41) a1.toNatClampNeg) / 3)), some (.int 0)], [], st S hs, 0, 0)) ∧ (¬ (((S.1 41) a1.toNatClampNeg) - ((S.1 41) a1.toNatClampNeg) / 3 * 3) = 0 → ((((S.1 41) a1.toNatClampNeg) - ((S.1 41) a1.toNatClampNeg) / 3 * 3) = 1 → X (77, [some (.ref 40), some (.int a1), some (.ref 33), some (.int (((S.1 41) a1.toNatClampNeg) / 3)), some (.int 0)], [], st S hs, 0, 0)) ∧ (¬ (((S.1 41) a1.toNatClampNeg) - ((S.1 41) a1.toNatClampNeg) / 3 * 3) = 1 → X (94, [some (.ref 40), some (.int a1), some (.ref 33), some (.int (((S.1 41) a1.toNatClampNeg) / 3)), some (.int 0)], [], st S hs, 0, 0)))
    refine ⟨fun hc => hX _ ?_, fun hc => ?_⟩
    · clear hP hX hk P' X cal
      rw [if_pos hc] at hr
      refine Wp.stepsG 5 (fun cal X P' hk hX hP => ?_)
      show vp_in a1 100 ∧ X (68, [some (.ref 40), some (.int a1), some (.ref 33), some (.int (((S.1 41) a1.toNatClampNeg) / 3)), some (.int 0)], [.int ((S.1 42) a1.toNatClampNeg), .int 0], st S hs, 0, 0)
      obtain ⟨hg, hr⟩ := gd_some hr
      refine ⟨hg, hX _ ?_⟩
      clear hP hX hk P' X cal
      refine Wp.stepsG 1 (fun cal X P' hk hX hP => ?_)
      show (((S.1 42) a1.toNatClampNeg) ≤ (0 : Int32) → X (75, [some (.ref 40), some (.int a1), some (.ref 33), some (.int (((S.1 41) a1.toNatClampNeg) / 3)), some (.int 0)], [], st S hs, 0, 0)) ∧ (¬ ((S.1 42) a1.toNatClampNeg) ≤ (0 : Int32) → X (71, [some (.ref 40), some (.int a1), some (.ref 33), some (.int (((S.1 41) a1.toNatClampNeg) / 3)), some (.int 0)], [], st S hs, 0, 0))
      refine ⟨fun hc => hX _ ?_, fun hc => hX _ ?_⟩
      · clear hP hX hk P' X cal
        rw [if_pos hc] at hr
        have hr := Option.some.inj hr
        subst hr
        refine Wp.stepsG 2 (fun cal X P' hk hX hP => ?_)
        exact ⟨Or.inl rfl, hP _ _ h⟩
      · clear hP hX hk P' X cal
        rw [if_neg hc] at hr
        have hr := Option.some.inj hr
        subst hr
        refine Wp.stepsG 3 (fun cal X P' hk hX hP => ?_)
        exact ⟨Or.inr rfl, hP _ _ h⟩
    · rw [if_neg hc] at hr
      refine ⟨fun hc => hX _ ?_, fun hc => hX _ ?_⟩
      · clear hP hX hk P' X cal
        rw [if_pos hc] at hr
        refine Wp.stepsG 5 (fun cal X P' hk hX hP => ?_)
        show vp_in a1 100 ∧ X (85, [some (.ref 40), some (.int a1), some (.ref 33), some (.int (((S.1 41) a1.toNatClampNeg) / 3)), some (.int 0)], [.int ((S.1 42) a1.toNatClampNeg), .int 0], st S hs, 0, 0)
        obtain ⟨hg, hr⟩ := gd_some hr
        refine ⟨hg, hX _ ?_⟩
        clear hP hX hk P' X cal
        refine Wp.stepsG 1 (fun cal X P' hk hX hP => ?_)
        show (¬ (0 : Int32) = ((S.1 42) a1.toNatClampNeg) → X (92, [some (.ref 40), some (.int a1), some (.ref 33), some (.int (((S.1 41) a1.toNatClampNeg) / 3)), some (.int 0)], [], st S hs, 0, 0)) ∧ ((0 : Int32) = ((S.1 42) a1.toNatClampNeg) → X (88, [some (.ref 40), some (.int a1), some (.ref 33), some (.int (((S.1 41) a1.toNatClampNeg) / 3)), some (.int 0)], [], st S hs, 0, 0))
        refine ⟨fun hc => hX _ ?_, fun hc => hX _ ?_⟩
        · clear hP hX hk P' X cal
          rw [if_neg hc] at hr
          have hr := Option.some.inj hr
          subst hr
          refine Wp.stepsG 2 (fun cal X P' hk hX hP => ?_)
          exact ⟨Or.inl rfl, hP _ _ h⟩
        · clear hP hX hk P' X cal
          rw [if_pos hc] at hr
          have hr := Option.some.inj hr
          subst hr
          refine Wp.stepsG 3 (fun cal X P' hk hX hP => ?_)
          exact ⟨Or.inr rfl, hP _ _ h⟩
      · rw [if_neg hc] at hr
        clear hP hX hk P' X cal
        refine Wp.stepsG 5 (fun cal X P' hk hX hP => ?_)
        show vp_in a1 100 ∧ X (102, [some (.ref 40), some (.int a1), some (.ref 33), some (.int (((S.1 41) a1.toNatClampNeg) / 3)), some (.int 0)], [.int ((S.1 42) a1.toNatClampNeg), .int 0], st S hs, 0, 0)
        obtain ⟨hg, hr⟩ := gd_some hr
        refine ⟨hg, hX _ ?_⟩
        clear hP hX hk P' X cal
        refine Wp.stepsG 1 (fun cal X P' hk hX hP => ?_)
        show ((0 : Int32) ≤ ((S.1 42) a1.toNatClampNeg) → X (109, [some (.ref 40), some (.int a1), some (.ref 33), some (.int (((S.1 41) a1.toNatClampNeg) / 3)), some (.int 0)], [], st S hs, 0, 0)) ∧ (¬ (0 : Int32) ≤ ((S.1 42) a1.toNatClampNeg) → X (105, [some (.ref 40), some (.int a1), some (.ref 33), some (.int (((S.1 41) a1.toNatClampNeg) / 3)), some (.int 0)], [], st S hs, 0, 0))
        refine ⟨fun hc => hX _ ?_, fun hc => hX _ ?_⟩
        · clear hP hX hk P' X cal
          rw [if_pos hc] at hr
          have hr := Option.some.inj hr
          subst hr
          refine Wp.stepsG 2 (fun cal X P' hk hX hP => ?_)
          exact ⟨Or.inl rfl, hP _ _ h⟩
        · clear hP hX hk P' X cal
          rw [if_neg hc] at hr
          have hr := Option.some.inj hr
          subst hr
          refine Wp.stepsG 3 (fun cal X P' hk hX hP => ?_)
          exact ⟨Or.inr rfl, hP _ _ h⟩
  · clear hP hX hk P' X cal
    rw [if_neg hc] at hr
    refine Wp.stepsG 3 (fun cal X P' hk hX hP => ?_)
    show vp_in (((S.1 41) a1.toNatClampNeg) / 3) 6 ∧ X (18, [some (.ref 40), some (.int a1), some (.ref 33), some (.int (((S.1 41) a1.toNatClampNeg) / 3)), none], [.int ((S.1 33) (((S.1 41) a1.toNatClampNeg) / 3).toNatClampNeg)], st S hs, 0, 0)
    obtain ⟨hg, hr⟩ := gd_some hr
    refine ⟨hg, hX _ ?_⟩
    clear hP hX hk P' X cal
    refine Wp.stepsG 6 (fun cal X P' hk hX hP => ?_)
    show vp_in a1 100 ∧ X (30, [some (.ref 40), some (.int a1), some (.ref 33), some (.int (((S.1 41) a1.toNatClampNeg) / 3)), some (.int ((S.1 33) (((S.1 41) a1.toNatClampNeg) / 3).toNatClampNeg))], [.int ((S.1 41) a1.toNatClampNeg)], st S hs, 0, 0)
    obtain ⟨hg, hr⟩ := gd_some hr
    refine ⟨hg, hX _ ?_⟩
    clear hP hX hk P' X cal
    refine Wp.stepsG 2 (fun cal X P' hk hX hP => ?_)
    show ¬ (3 : Int32) = 0 ∧ X (32, [some (.ref 40), some (.int a1), some (.ref 33), some (.int (((S.1 41) a1.toNatClampNeg) / 3)), some (.int ((S.1 33) (((S.1 41) a1.toNatClampNeg) / 3).toNatClampNeg))], [.int (((S.1 41) a1.toNatClampNeg) - ((S.1 41) a1.toNatClampNeg) / 3 * 3)], st S hs, 0, 0)
    refine ⟨(show ¬ (3 : Int32) = 0 from by decide), hX _ ?_⟩
    clear hP hX hk P' X cal
    refine Wp.stepsG 1 (fun cal X P' hk hX hP => ?_)
    show ((((S.1 41) a1.toNatClampNeg) - ((S.1 41) a1.toNatClampNeg) / 3 * 3) = 0 → X (60, [some (.ref 40), some (.int a1), some (.ref 33), some (.int (((S.1 41) a1.toNatClampNeg) / 3)), some (.int ((S.1 33) (((S.1 41) a1.toNatClampNeg) / 3).toNatClampNeg))], [], st S hs, 0, 0)) ∧ (¬ (((S.1 41) a1.toNatClampNeg) - ((S.1 41) a1.toNatClampNeg) / 3 * 3) = 0 → ((((S.1 41) a1.toNatClampNeg) - ((S.1 41) a1.toNatClampNeg) / 3 * 3) = 1 → X (77, [some (.ref 40), some (.int a1), some (.ref 33), some (.int (((S.1 41) a1.toNatClampNeg) / 3)), some (.int ((S.1 33) (((S.1 41) a1.toNatClampNeg) / 3).toNatClampNeg))], [], st S hs, 0, 0)) ∧ (¬ (((S.1 41) a1.toNatClampNeg) - ((S.1 41) a1.toNatClampNeg) / 3 * 3) = 1 → X (94, [some (.ref 40), some (.int a1), some (.ref 33), some (.int (((S.1 41) a1.toNatClampNeg) / 3)), some (.int ((S.1 33) (((S.1 41) a1.toNatClampNeg) / 3).toNatClampNeg))], [], st S hs, 0, 0)))
    refine ⟨fun hc => hX _ ?_, fun hc => ?_⟩
    · clear hP hX hk P' X cal
      rw [if_pos hc] at hr
      refine Wp.stepsG 5 (fun cal X P' hk hX hP => ?_)
      show vp_in a1 100 ∧ X (68, [some (.ref 40), some (.int a1), some (.ref 33), some (.int (((S.1 41) a1.toNatClampNeg) / 3)), some (.int ((S.1 33) (((S.1 41) a1.toNatClampNeg) / 3).toNatClampNeg))], [.int ((S.1 42) a1.toNatClampNeg), .int ((S.1 33) (((S.1 41) a1.toNatClampNeg) / 3).toNatClampNeg)], st S hs, 0, 0)
      obtain ⟨hg, hr⟩ := gd_some hr
      refine ⟨hg, hX _ ?_⟩
      clear hP hX hk P' X cal
      refine Wp.stepsG 1 (fun cal X P' hk hX hP => ?_)
      show (((S.1 42) a1.toNatClampNeg) ≤ ((S.1 33) (((S.1 41) a1.toNatClampNeg) / 3).toNatClampNeg) → X (75, [some (.ref 40), some (.int a1), some (.ref 33), some (.int (((S.1 41) a1.toNatClampNeg) / 3)), some (.int ((S.1 33) (((S.1 41) a1.toNatClampNeg) / 3).toNatClampNeg))], [], st S hs, 0, 0)) ∧ (¬ ((S.1 42) a1.toNatClampNeg) ≤ ((S.1 33) (((S.1 41) a1.toNatClampNeg) / 3).toNatClampNeg) → X (71, [some (.ref 40), some (.int a1), some (.ref 33), some (.int (((S.1 41) a1.toNatClampNeg) / 3)), some (.int ((S.1 33) (((S.1 41) a1.toNatClampNeg) / 3).toNatClampNeg))], [], st S hs, 0, 0))
      refine ⟨fun hc => hX _ ?_, fun hc => hX _ ?_⟩
      · clear hP hX hk P' X cal
        rw [if_pos hc] at hr
        have hr := Option.some.inj hr
        subst hr
        refine Wp.stepsG 2 (fun cal X P' hk hX hP => ?_)
        exact ⟨Or.inl rfl, hP _ _ h⟩
      · clear hP hX hk P' X cal
        rw [if_neg hc] at hr
        have hr := Option.some.inj hr
        subst hr
        refine Wp.stepsG 3 (fun cal X P' hk hX hP => ?_)
        exact ⟨Or.inr rfl, hP _ _ h⟩
    · rw [if_neg hc] at hr
      refine ⟨fun hc => hX _ ?_, fun hc => hX _ ?_⟩
      · clear hP hX hk P' X cal
        rw [if_pos hc] at hr
        refine Wp.stepsG 5 (fun cal X P' hk hX hP => ?_)
        show vp_in a1 100 ∧ X (85, [some (.ref 40), some (.int a1), some (.ref 33), some (.int (((S.1 41) a1.toNatClampNeg) / 3)), some (.int ((S.1 33) (((S.1 41) a1.toNatClampNeg) / 3).toNatClampNeg))], [.int ((S.1 42) a1.toNatClampNeg), .int ((S.1 33) (((S.1 41) a1.toNatClampNeg) / 3).toNatClampNeg)], st S hs, 0, 0)
        obtain ⟨hg, hr⟩ := gd_some hr
        refine ⟨hg, hX _ ?_⟩
        clear hP hX hk P' X cal
        refine Wp.stepsG 1 (fun cal X P' hk hX hP => ?_)
        show (¬ ((S.1 33) (((S.1 41) a1.toNatClampNeg) / 3).toNatClampNeg) = ((S.1 42) a1.toNatClampNeg) → X (92, [some (.ref 40), some (.int a1), some (.ref 33), some (.int (((S.1 41) a1.toNatClampNeg) / 3)), some (.int ((S.1 33) (((S.1 41) a1.toNatClampNeg) / 3).toNatClampNeg))], [], st S hs, 0, 0)) ∧ (((S.1 33) (((S.1 41) a1.toNatClampNeg) / 3).toNatClampNeg) = ((S.1 42) a1.toNatClampNeg) → X (88, [some (.ref 40), some (.int a1), some (.ref 33), some (.int (((S.1 41) a1.toNatClampNeg) / 3)), some (.int ((S.1 33) (((S.1 41) a1.toNatClampNeg) / 3).toNatClampNeg))], [], st S hs, 0, 0))
        refine ⟨fun hc => hX _ ?_, fun hc => hX _ ?_⟩
        · clear hP hX hk P' X cal
          rw [if_neg hc] at hr
          have hr := Option.some.inj hr
          subst hr
          refine Wp.stepsG 2 (fun cal X P' hk hX hP => ?_)
          exact ⟨Or.inl rfl, hP _ _ h⟩
        · clear hP hX hk P' X cal
          rw [if_pos hc] at hr
          have hr := Option.some.inj hr
          subst hr
          refine Wp.stepsG 3 (fun cal X P' hk hX hP => ?_)
          exact ⟨Or.inr rfl, hP _ _ h⟩
      · rw [if_neg hc] at hr
        clear hP hX hk P' X cal
        refine Wp.stepsG 5 (fun cal X P' hk hX hP => ?_)
        show vp_in a1 100 ∧ X (102, [some (.ref 40), some (.int a1), some (.ref 33), some (.int (((S.1 41) a1.toNatClampNeg) / 3)), some (.int ((S.1 33) (((S.1 41) a1.toNatClampNeg) / 3).toNatClampNeg))], [.int ((S.1 42) a1.toNatClampNeg), .int ((S.1 33) (((S.1 41) a1.toNatClampNeg) / 3).toNatClampNeg)], st S hs, 0, 0)
        obtain ⟨hg, hr⟩ := gd_some hr
        refine ⟨hg, hX _ ?_⟩
        clear hP hX hk P' X cal
        refine Wp.stepsG 1 (fun cal X P' hk hX hP => ?_)
        show (((S.1 33) (((S.1 41) a1.toNatClampNeg) / 3).toNatClampNeg) ≤ ((S.1 42) a1.toNatClampNeg) → X (109, [some (.ref 40), some (.int a1), some (.ref 33), some (.int (((S.1 41) a1.toNatClampNeg) / 3)), some (.int ((S.1 33) (((S.1 41) a1.toNatClampNeg) / 3).toNatClampNeg))], [], st S hs, 0, 0)) ∧ (¬ ((S.1 33) (((S.1 41) a1.toNatClampNeg) / 3).toNatClampNeg) ≤ ((S.1 42) a1.toNatClampNeg) → X (105, [some (.ref 40), some (.int a1), some (.ref 33), some (.int (((S.1 41) a1.toNatClampNeg) / 3)), some (.int ((S.1 33) (((S.1 41) a1.toNatClampNeg) / 3).toNatClampNeg))], [], st S hs, 0, 0))
        refine ⟨fun hc => hX _ ?_, fun hc => hX _ ?_⟩
        · clear hP hX hk P' X cal
          rw [if_pos hc] at hr
          have hr := Option.some.inj hr
          subst hr
          refine Wp.stepsG 2 (fun cal X P' hk hX hP => ?_)
          exact ⟨Or.inl rfl, hP _ _ h⟩
        · clear hP hX hk P' X cal
          rw [if_neg hc] at hr
          have hr := Option.some.inj hr
          subst hr
          refine Wp.stepsG 3 (fun cal X P' hk hX hP => ?_)
          exact ⟨Or.inr rfl, hP _ _ h⟩
def lp_X5_moodBy_33_7 (S : St) (o : Nat) : Nat → Int32 → Int32 → Int32 → Option (Int32)
  | 0, _, _, _ => none
  | n + 1, v2, v3, v4 =>
    if (S.1 o 2) ≤ v4 then
      some v2
    else
      gd (¬ (v4 < 0 ∨ 100 ≤ v4.toNatClampNeg)) (
        if ((S.1 (o + 1)) v4.toNatClampNeg) = 18 then
          lp_X5_moodBy_33_7 S o n v2 (v3 ^^^ 1) (v4 + 1)
        else
        if ((S.1 (o + 1)) v4.toNatClampNeg) = 19 then
          lp_X5_moodBy_33_7 S o n v2 ((v3 >>> (1 &&& 31)) &&& ((v3 &&& 1) ||| (-2))) (v4 + 1)
        else
        if ((S.1 (o + 1)) v4.toNatClampNeg) = 20 then
          lp_X5_moodBy_33_7 S o n v2 ((v3 >>> (1 &&& 31)) ||| (v3 &&& 1)) (v4 + 1)
        else
        if ((S.1 (o + 1)) v4.toNatClampNeg) = 21 then
          gd (¬ (v4 < 0 ∨ 100 ≤ v4.toNatClampNeg)) (
            lp_X5_moodBy_33_7 S o n (v2 + ((v3 &&& 1) * ((S.1 (o + 2)) v4.toNatClampNeg))) (v3 >>> (1 &&& 31)) (v4 + 1))
        else
          (r_X5_holds_33 S o v4).bind fun q1 =>
          if q1 = 0 then
            lp_X5_moodBy_33_7 S o n v2 ((v3 <<< (1 &&& 31)) ||| 0) (v4 + 1)
          else
            lp_X5_moodBy_33_7 S o n v2 ((v3 <<< (1 &&& 31)) ||| 1) (v4 + 1))
def r_X5_moodBy_33 (S : St) (o : Nat) : Option Int32 :=
  (lp_X5_moodBy_33_7 S o 4000 0 0 0).bind fun q2 =>
    some q2
set_option maxRecDepth 20000 in
set_option maxHeartbeats 4000000 in
theorem e_lp_X5_moodBy_33_7_40 (d : Nat) (hs : List Hr) (P : Option Value → Hp → Prop) (S : St) : ∀ (n : Nat) (v2 : Int32) (v3 : Int32) (v4 : Int32) (q : Int32), lp_X5_moodBy_33_7 S 40 n v2 v3 v4 = some q → (WM mi_X5_moodBy (d + 1) P 136 [some (.ref 40), some (.ref 33), some (.int q), none, none, none] [] (st S hs)) → WM mi_X5_moodBy (d + 1) P 7 [some (.ref 40), some (.ref 33), some (.int v2), some (.int v3), some (.int v4), none] [] (st S hs) := by
  intro n
  induction n with
  | zero =>
    intro v2 v3 v4 q hl
    cases hl
  | succ n ih =>
    intro v2 v3 v4 q hl ct
    rw [lp_X5_moodBy_33_7] at hl
    refine Wp.stepsG 4 (fun cal X P' hk hX hP => ?_)
    show ((S.1 40 2) ≤ v4 → X (136, [some (.ref 40), some (.ref 33), some (.int v2), some (.int v3), some (.int v4), none], [], st S hs, 0, 0)) ∧ (¬ (S.1 40 2) ≤ v4 → X (16, [some (.ref 40), some (.ref 33), some (.int v2), some (.int v3), some (.int v4), none], [], st S hs, 0, 0))
    refine ⟨fun hc => hX _ ?_, fun hc => hX _ ?_⟩
    · clear hP hX hk P' X cal
      rw [if_pos hc] at hl
      have hl := Option.some.inj hl
      subst hl
      exact Wp.weak (leL.k (leL.k (leL.k (leL.n (leL.n (leL.k leL.z)))))) (ct)
    · clear hP hX hk P' X cal
      rw [if_neg hc] at hl
      refine Wp.stepsG 8 (fun cal X P' hk hX hP => ?_)
      show vp_in v4 100 ∧ X (28, [some (.ref 40), some (.ref 33), some (.int v2), some (.int v3), some (.int v4), some (.int (v3 &&& 1))], [.int ((S.1 41) v4.toNatClampNeg)], st S hs, 0, 0)
      obtain ⟨hg, hl⟩ := gd_some hl
      refine ⟨hg, hX _ ?_⟩
      clear hP hX hk P' X cal
      refine Wp.stepsG 1 (fun cal X P' hk hX hP => ?_)
      show (((S.1 41) v4.toNatClampNeg) = 18 → X (60, [some (.ref 40), some (.ref 33), some (.int v2), some (.int v3), some (.int v4), some (.int (v3 &&& 1))], [], st S hs, 0, 0)) ∧ (¬ ((S.1 41) v4.toNatClampNeg) = 18 → (((S.1 41) v4.toNatClampNeg) = 19 → X (67, [some (.ref 40), some (.ref 33), some (.int v2), some (.int v3), some (.int v4), some (.int (v3 &&& 1))], [], st S hs, 0, 0)) ∧ (¬ ((S.1 41) v4.toNatClampNeg) = 19 → (((S.1 41) v4.toNatClampNeg) = 20 → X (80, [some (.ref 40), some (.ref 33), some (.int v2), some (.int v3), some (.int v4), some (.int (v3 &&& 1))], [], st S hs, 0, 0)) ∧ (¬ ((S.1 41) v4.toNatClampNeg) = 20 → (((S.1 41) v4.toNatClampNeg) = 21 → X (90, [some (.ref 40), some (.ref 33), some (.int v2), some (.int v3), some (.int v4), some (.int (v3 &&& 1))], [], st S hs, 0, 0)) ∧ (¬ ((S.1 41) v4.toNatClampNeg) = 21 → X (110, [some (.ref 40), some (.ref 33), some (.int v2), some (.int v3), some (.int v4), some (.int (v3 &&& 1))], [], st S hs, 0, 0)))))
      refine ⟨fun hc => hX _ ?_, fun hc => ?_⟩
      · clear hP hX hk P' X cal
        rw [if_pos hc] at hl
        refine Wp.stepsG 7 (fun cal X P' hk hX hP => ?_)
        show X (7, [some (.ref 40), some (.ref 33), some (.int v2), some (.int (v3 ^^^ 1)), some (.int (v4 + 1)), some (.int (v3 &&& 1))], [], st S hs, 0, 0)
        refine hX _ ?_
        exact Wp.weak (leL.k (leL.k (leL.k (leL.k (leL.k (leL.n leL.z)))))) (ih v2 (v3 ^^^ 1) (v4 + 1) q hl ct)
      · rw [if_neg hc] at hl
        refine ⟨fun hc => hX _ ?_, fun hc => ?_⟩
        · clear hP hX hk P' X cal
          rw [if_pos hc] at hl
          refine Wp.stepsG 11 (fun cal X P' hk hX hP => ?_)
          show X (7, [some (.ref 40), some (.ref 33), some (.int v2), some (.int ((v3 >>> (1 &&& 31)) &&& ((v3 &&& 1) ||| (-2)))), some (.int (v4 + 1)), some (.int (v3 &&& 1))], [], st S hs, 0, 0)
          refine hX _ ?_
          exact Wp.weak (leL.k (leL.k (leL.k (leL.k (leL.k (leL.n leL.z)))))) (ih v2 ((v3 >>> (1 &&& 31)) &&& ((v3 &&& 1) ||| (-2))) (v4 + 1) q hl ct)
        · rw [if_neg hc] at hl
          refine ⟨fun hc => hX _ ?_, fun hc => ?_⟩
          · clear hP hX hk P' X cal
            rw [if_pos hc] at hl
            refine Wp.stepsG 9 (fun cal X P' hk hX hP => ?_)
            show X (7, [some (.ref 40), some (.ref 33), some (.int v2), some (.int ((v3 >>> (1 &&& 31)) ||| (v3 &&& 1))), some (.int (v4 + 1)), some (.int (v3 &&& 1))], [], st S hs, 0, 0)
            refine hX _ ?_
            exact Wp.weak (leL.k (leL.k (leL.k (leL.k (leL.k (leL.n leL.z)))))) (ih v2 ((v3 >>> (1 &&& 31)) ||| (v3 &&& 1)) (v4 + 1) q hl ct)
          · rw [if_neg hc] at hl
            refine ⟨fun hc => hX _ ?_, fun hc => hX _ ?_⟩
            · clear hP hX hk P' X cal
              rw [if_pos hc] at hl
              refine Wp.stepsG 10 (fun cal X P' hk hX hP => ?_)
              show vp_in v4 100 ∧ X (104, [some (.ref 40), some (.ref 33), some (.int v2), some (.int (v3 >>> (1 &&& 31))), some (.int v4), some (.int (v3 &&& 1))], [.int ((S.1 42) v4.toNatClampNeg), .int (v3 &&& 1), .int v2], st S hs, 0, 0)
              obtain ⟨hg, hl⟩ := gd_some hl
              refine ⟨hg, hX _ ?_⟩
              clear hP hX hk P' X cal
              refine Wp.stepsG 6 (fun cal X P' hk hX hP => ?_)
              show X (7, [some (.ref 40), some (.ref 33), some (.int (v2 + ((v3 &&& 1) * ((S.1 42) v4.toNatClampNeg)))), some (.int (v3 >>> (1 &&& 31))), some (.int (v4 + 1)), some (.int (v3 &&& 1))], [], st S hs, 0, 0)
              refine hX _ ?_
              exact Wp.weak (leL.k (leL.k (leL.k (leL.k (leL.k (leL.n leL.z)))))) (ih (v2 + ((v3 &&& 1) * ((S.1 42) v4.toNatClampNeg))) (v3 >>> (1 &&& 31)) (v4 + 1) q hl ct)
            · rw [if_neg hc] at hl
              clear hP hX hk P' X cal
              refine Wp.stepsG 7 (fun cal X P' hk hX hP => ?_)
              show kcall cal ix_X5_holds [.ref 40, .int v4, .ref 33] (st S hs) [.int (v3 <<< (1 &&& 31))] 0 0 (0, 0) (fun v σ' c' m' => X (120, [some (.ref 40), some (.ref 33), some (.int v2), some (.int v3), some (.int v4), some (.int (v3 &&& 1))], v.toList ++ [.int (v3 <<< (1 &&& 31))], σ', c', m'))
              obtain ⟨q1, hq1, hl⟩ := bd_some hl
              refine kcall0 rfl (hk _ _ _ _ _ _ (e_X5_holds_33_40 (d + 0) S hs v4 q1 hq1 _ ?_))
              show X (120, [some (.ref 40), some (.ref 33), some (.int v2), some (.int v3), some (.int v4), some (.int (v3 &&& 1))], [.int q1, .int (v3 <<< (1 &&& 31))], st S hs, 0, 0)
              refine hX _ ?_
              clear hP hX hk P' X cal
              refine Wp.stepsG 1 (fun cal X P' hk hX hP => ?_)
              show (q1 = 0 → X (127, [some (.ref 40), some (.ref 33), some (.int v2), some (.int v3), some (.int v4), some (.int (v3 &&& 1))], [.int (v3 <<< (1 &&& 31))], st S hs, 0, 0)) ∧ (¬ q1 = 0 → X (123, [some (.ref 40), some (.ref 33), some (.int v2), some (.int v3), some (.int v4), some (.int (v3 &&& 1))], [.int (v3 <<< (1 &&& 31))], st S hs, 0, 0))
              refine ⟨fun hc => hX _ ?_, fun hc => hX _ ?_⟩
              · clear hP hX hk P' X cal
                rw [if_pos hc] at hl
                refine Wp.stepsG 5 (fun cal X P' hk hX hP => ?_)
                show X (7, [some (.ref 40), some (.ref 33), some (.int v2), some (.int ((v3 <<< (1 &&& 31)) ||| 0)), some (.int (v4 + 1)), some (.int (v3 &&& 1))], [], st S hs, 0, 0)
                refine hX _ ?_
                exact Wp.weak (leL.k (leL.k (leL.k (leL.k (leL.k (leL.n leL.z)))))) (ih v2 ((v3 <<< (1 &&& 31)) ||| 0) (v4 + 1) q hl ct)
              · clear hP hX hk P' X cal
                rw [if_neg hc] at hl
                refine Wp.stepsG 6 (fun cal X P' hk hX hP => ?_)
                show X (7, [some (.ref 40), some (.ref 33), some (.int v2), some (.int ((v3 <<< (1 &&& 31)) ||| 1)), some (.int (v4 + 1)), some (.int (v3 &&& 1))], [], st S hs, 0, 0)
                refine hX _ ?_
                exact Wp.weak (leL.k (leL.k (leL.k (leL.k (leL.k (leL.n leL.z)))))) (ih v2 ((v3 <<< (1 &&& 31)) ||| 1) (v4 + 1) q hl ct)
set_option maxRecDepth 20000 in
set_option maxHeartbeats 4000000 in
theorem e_X5_moodBy_33_40 (d : Nat) (S : St) (hs : List Hr) (v : Int32) (hr : r_X5_moodBy_33 S 40 = some v) (P : Option Value → Hp → Prop) (h : P (some (.int v)) (st S hs)) : Ev (d + 2) ix_X5_moodBy 0 0 [.ref 40, .ref 33] (st S hs) P := by
  refine Ev.intro (M := mi_X5_moodBy) rfl (Nat.le_of_ble_eq_true rfl) ?_
  unfold r_X5_moodBy_33 at hr
  refine Wp.stepsG 6 (fun cal X P' hk hX hP => ?_)
  show X (7, [some (.ref 40), some (.ref 33), some (.int 0), some (.int 0), some (.int 0), none], [], st S hs, 0, 0)
  refine hX _ ?_
  clear hP hX hk P' X cal
  obtain ⟨q2, hq2, hr⟩ := bd_some hr
  refine (e_lp_X5_moodBy_33_7_40 d hs P S _ 0 0 0 q2 hq2 ?_)
  have hr := Option.some.inj hr
  subst hr
  refine Wp.stepsG 2 (fun cal X P' hk hX hP => ?_)
  exact hP _ _ h
