def lp_X12_takesE_22 (f1 : Int32) : Nat → Int32 → St → Option (Nat × St)
  | 0, _, _ => none
  | n + 1, v2, S =>
    (r_X12_next S).bind fun q1 =>
    if v2 = 0 then
      if q1 = 38 then
        (r_X12_settle S q1).bind fun q2 =>
        gd (¬ ((q2.2.1 76 24) < 0 ∨ 101 ≤ (q2.2.1 76 24).toNatClampNeg)) (
          lp_X12_takesE_22 f1 n 1 (sI (sI (sA q2.2 91 (upd (q2.2.1 91) (q2.2.1 76 24).toNatClampNeg q1)) 76 24 ((q2.2.1 76 24) + 1)) 76 13 ((q2.2.1 76 13) + 1)))
      else
        if q1 = 124 then
          (r_X12_settle S q1).bind fun q5 =>
          gd (¬ ((q5.2.1 76 24) < 0 ∨ 101 ≤ (q5.2.1 76 24).toNatClampNeg)) (
            lp_X12_takesE_22 f1 n 1 (sI (sI (sA q5.2 91 (upd (q5.2.1 91) (q5.2.1 76 24).toNatClampNeg q1)) 76 24 ((q5.2.1 76 24) + 1)) 76 13 ((q5.2.1 76 13) + 1)))
        else
          (r_X12_settle S 124).bind fun q3 =>
          gd (¬ (f1 < 0 ∨ 60 ≤ f1.toNatClampNeg)) (
            if (q3.2.1 76 24) = 0 then
              some (2, sA q3.2 89 (upd (q3.2.1 89) f1.toNatClampNeg (q3.2.1 76 23)))
            else
              if q1 = 41 then
                (r_X12_whole (sI (sI (sI (sA q3.2 89 (upd (q3.2.1 89) f1.toNatClampNeg (q3.2.1 76 23))) 76 24 ((q3.2.1 76 24) - 1)) 76 25 ((q3.2.1 76 25) - 1)) 76 13 ((q3.2.1 76 13) + 1))).bind fun q4 =>
                lp_X12_takesE_22 f1 n v2 q4.2
              else
                some (3, sA q3.2 89 (upd (q3.2.1 89) f1.toNatClampNeg (q3.2.1 76 23))))
    else
      if q1 = 33 then
        if (S.1 76 25) = 4 then
          some (0, S)
        else
          gd (¬ ((S.1 76 24) < 0 ∨ 101 ≤ (S.1 76 24).toNatClampNeg)) (
            lp_X12_takesE_22 f1 n v2 (sI (sI (sA (sI S 76 25 ((S.1 76 25) + 1)) 91 (upd (S.1 91) (S.1 76 24).toNatClampNeg q1)) 76 24 ((S.1 76 24) + 1)) 76 13 ((S.1 76 13) + 1)))
      else
        if q1 = 40 then
          if (S.1 76 25) = 4 then
            some (0, S)
          else
            gd (¬ ((S.1 76 24) < 0 ∨ 101 ≤ (S.1 76 24).toNatClampNeg)) (
              lp_X12_takesE_22 f1 n v2 (sI (sI (sA (sI S 76 25 ((S.1 76 25) + 1)) 91 (upd (S.1 91) (S.1 76 24).toNatClampNeg q1)) 76 24 ((S.1 76 24) + 1)) 76 13 ((S.1 76 13) + 1)))
        else
          (r_X12_takesTest S).bind fun q6 =>
          if q6.1 = 0 then
            some (1, q6.2)
          else
            lp_X12_takesE_22 f1 n 0 q6.2
set_option maxRecDepth 20000 in
set_option maxHeartbeats 4000000 in
theorem e_lp_X12_takesE_22 (d : Nat) (hs : List Hr) (P : Option Value → Hp → Prop) (f1 : Int32) : ∀ (n : Nat) (v2 : Int32) (S : St) (q : Nat × St), lp_X12_takesE_22 f1 n v2 S = some q → (q.1 = 0 → WM mi_X12_takesE (d + 4) P 51 [some (.ref 76), some (.int f1), none, none] [] (st q.2 hs)) ∧ (q.1 = 1 → WM mi_X12_takesE (d + 4) P 108 [some (.ref 76), some (.int f1), none, none] [] (st q.2 hs)) ∧ (q.1 = 2 → WM mi_X12_takesE (d + 4) P 185 [some (.ref 76), some (.int f1), none, none] [] (st q.2 hs)) ∧ (q.1 = 3 → WM mi_X12_takesE (d + 4) P 193 [some (.ref 76), some (.int f1), none, none] [] (st q.2 hs)) → WM mi_X12_takesE (d + 4) P 22 [some (.ref 76), some (.int f1), some (.int v2), none] [] (st S hs) := by
  intro n
  induction n with
  | zero =>
    intro v2 S q hl
    cases hl
  | succ n ih =>
    intro v2 S q hl ct
    rw [lp_X12_takesE_22] at hl
    refine Wp.stepsG 2 (fun cal X P' hk hX hP => ?_)
    show kcall cal ix_X12_next [.ref 76] (st S hs) [] 0 0 (0, 0) (fun v σ' c' m' => X (26, [some (.ref 76), some (.int f1), some (.int v2), none], v.toList ++ [], σ', c', m'))
    obtain ⟨q1, hq1, hl⟩ := bd_some hl
    refine kcall0 rfl (hk _ _ _ _ _ _ (e_X12_next (d + 3) S hs q1 hq1 _ ?_))
    show X (26, [some (.ref 76), some (.int f1), some (.int v2), none], [.int q1], st S hs, 0, 0)
    refine hX _ ?_
    clear hP hX hk P' X cal
    refine Wp.stepsG 3 (fun cal X P' hk hX hP => ?_)
    show (v2 = 0 → X (110, [some (.ref 76), some (.int f1), some (.int v2), some (.int q1)], [], st S hs, 0, 0)) ∧ (¬ v2 = 0 → X (31, [some (.ref 76), some (.int f1), some (.int v2), some (.int q1)], [], st S hs, 0, 0))
    refine ⟨fun hc => hX _ ?_, fun hc => hX _ ?_⟩
    · clear hP hX hk P' X cal
      rw [if_pos hc] at hl
      refine Wp.stepsG 3 (fun cal X P' hk hX hP => ?_)
      show (q1 = 38 → X (122, [some (.ref 76), some (.int f1), some (.int v2), some (.int q1)], [], st S hs, 0, 0)) ∧ (¬ q1 = 38 → X (116, [some (.ref 76), some (.int f1), some (.int v2), some (.int q1)], [], st S hs, 0, 0))
      refine ⟨fun hc => hX _ ?_, fun hc => hX _ ?_⟩
      · clear hP hX hk P' X cal
        rw [if_pos hc] at hl
        refine Wp.stepsG 3 (fun cal X P' hk hX hP => ?_)
        show kcall cal ix_X12_settle [.ref 76, .int q1] (st S hs) [] 0 0 (0, 0) (fun v σ' c' m' => X (127, [some (.ref 76), some (.int f1), some (.int v2), some (.int q1)], v.toList ++ [], σ', c', m'))
        obtain ⟨q2, hq2, hl⟩ := bd_some hl
        refine kcall0 rfl (hk _ _ _ _ _ _ (e_X12_settle (d + 2) S hs q1 q2 hq2 _ ?_))
        show X (127, [some (.ref 76), some (.int f1), some (.int v2), some (.int q1)], [], st q2.2 hs, 0, 0)
        refine hX _ ?_
        clear hP hX hk P' X cal
        refine Wp.stepsG 6 (fun cal X P' hk hX hP => ?_)
        show vp_in (q2.2.1 76 24) 101 ∧ X (137, [some (.ref 76), some (.int f1), some (.int v2), some (.int q1)], [], st (sA q2.2 91 (upd (q2.2.1 91) (q2.2.1 76 24).toNatClampNeg q1)) hs, 0, 0)
        obtain ⟨hg, hl⟩ := gd_some hl
        refine ⟨hg, hX _ ?_⟩
        clear hP hX hk P' X cal
        refine Wp.stepsG 15 (fun cal X P' hk hX hP => ?_)
        show X (22, [some (.ref 76), some (.int f1), some (.int 1), some (.int q1)], [], st (sI (sI (sA q2.2 91 (upd (q2.2.1 91) (q2.2.1 76 24).toNatClampNeg q1)) 76 24 ((q2.2.1 76 24) + 1)) 76 13 ((q2.2.1 76 13) + 1)) hs, 0, 0)
        refine hX _ ?_
        exact Wp.weak (leL.k (leL.k (leL.k (leL.n leL.z)))) (ih 1 (sI (sI (sA q2.2 91 (upd (q2.2.1 91) (q2.2.1 76 24).toNatClampNeg q1)) 76 24 ((q2.2.1 76 24) + 1)) 76 13 ((q2.2.1 76 13) + 1)) q hl ct)
      · clear hP hX hk P' X cal
        rw [if_neg hc] at hl
        refine Wp.stepsG 3 (fun cal X P' hk hX hP => ?_)
        show (¬ q1 = 124 → X (162, [some (.ref 76), some (.int f1), some (.int v2), some (.int q1)], [], st S hs, 0, 0)) ∧ (q1 = 124 → X (122, [some (.ref 76), some (.int f1), some (.int v2), some (.int q1)], [], st S hs, 0, 0))
        refine ⟨fun hc => hX _ ?_, fun hc => hX _ ?_⟩
        · clear hP hX hk P' X cal
          rw [if_neg hc] at hl
          refine Wp.stepsG 3 (fun cal X P' hk hX hP => ?_)
          show kcall cal ix_X12_settle [.ref 76, .int 124] (st S hs) [] 0 0 (0, 0) (fun v σ' c' m' => X (168, [some (.ref 76), some (.int f1), some (.int v2), some (.int q1)], v.toList ++ [], σ', c', m'))
          obtain ⟨q3, hq3, hl⟩ := bd_some hl
          refine kcall0 rfl (hk _ _ _ _ _ _ (e_X12_settle (d + 2) S hs 124 q3 hq3 _ ?_))
          show X (168, [some (.ref 76), some (.int f1), some (.int v2), some (.int q1)], [], st q3.2 hs, 0, 0)
          refine hX _ ?_
          clear hP hX hk P' X cal
          refine Wp.stepsG 6 (fun cal X P' hk hX hP => ?_)
          show vp_in f1 60 ∧ X (178, [some (.ref 76), some (.int f1), some (.int v2), some (.int q1)], [], st (sA q3.2 89 (upd (q3.2.1 89) f1.toNatClampNeg (q3.2.1 76 23))) hs, 0, 0)
          obtain ⟨hg, hl⟩ := gd_some hl
          refine ⟨hg, hX _ ?_⟩
          clear hP hX hk P' X cal
          refine Wp.stepsG 3 (fun cal X P' hk hX hP => ?_)
          show (¬ (q3.2.1 76 24) = 0 → X (187, [some (.ref 76), some (.int f1), some (.int v2), some (.int q1)], [], st (sA q3.2 89 (upd (q3.2.1 89) f1.toNatClampNeg (q3.2.1 76 23))) hs, 0, 0)) ∧ ((q3.2.1 76 24) = 0 → X (185, [some (.ref 76), some (.int f1), some (.int v2), some (.int q1)], [], st (sA q3.2 89 (upd (q3.2.1 89) f1.toNatClampNeg (q3.2.1 76 23))) hs, 0, 0))
          refine ⟨fun hc => hX _ ?_, fun hc => hX _ ?_⟩
          · clear hP hX hk P' X cal
            rw [if_neg hc] at hl
            refine Wp.stepsG 3 (fun cal X P' hk hX hP => ?_)
            show (q1 = 41 → X (195, [some (.ref 76), some (.int f1), some (.int v2), some (.int q1)], [], st (sA q3.2 89 (upd (q3.2.1 89) f1.toNatClampNeg (q3.2.1 76 23))) hs, 0, 0)) ∧ (¬ q1 = 41 → X (193, [some (.ref 76), some (.int f1), some (.int v2), some (.int q1)], [], st (sA q3.2 89 (upd (q3.2.1 89) f1.toNatClampNeg (q3.2.1 76 23))) hs, 0, 0))
            refine ⟨fun hc => hX _ ?_, fun hc => hX _ ?_⟩
            · clear hP hX hk P' X cal
              rw [if_pos hc] at hl
              refine Wp.stepsG 20 (fun cal X P' hk hX hP => ?_)
              show kcall cal ix_X12_whole [.ref 76] (st (sI (sI (sI (sA q3.2 89 (upd (q3.2.1 89) f1.toNatClampNeg (q3.2.1 76 23))) 76 24 ((q3.2.1 76 24) - 1)) 76 25 ((q3.2.1 76 25) - 1)) 76 13 ((q3.2.1 76 13) + 1)) hs) [] 0 0 (0, 0) (fun v σ' c' m' => X (229, [some (.ref 76), some (.int f1), some (.int v2), some (.int q1)], v.toList ++ [], σ', c', m'))
              obtain ⟨q4, hq4, hl⟩ := bd_some hl
              refine kcall0 rfl (hk _ _ _ _ _ _ (e_X12_whole (d + 2) (sI (sI (sI (sA q3.2 89 (upd (q3.2.1 89) f1.toNatClampNeg (q3.2.1 76 23))) 76 24 ((q3.2.1 76 24) - 1)) 76 25 ((q3.2.1 76 25) - 1)) 76 13 ((q3.2.1 76 13) + 1)) hs q4 hq4 _ ?_))
              show X (229, [some (.ref 76), some (.int f1), some (.int v2), some (.int q1)], [], st q4.2 hs, 0, 0)
              refine hX _ ?_
              clear hP hX hk P' X cal
              refine Wp.stepsG 1 (fun cal X P' hk hX hP => ?_)
              show X (22, [some (.ref 76), some (.int f1), some (.int v2), some (.int q1)], [], st q4.2 hs, 0, 0)
              refine hX _ ?_
              exact Wp.weak (leL.k (leL.k (leL.k (leL.n leL.z)))) (ih v2 q4.2 q hl ct)
            · clear hP hX hk P' X cal
              rw [if_neg hc] at hl
              have hl := Option.some.inj hl
              subst hl
              exact Wp.weak (leL.k (leL.k (leL.n (leL.n leL.z)))) (ct.2.2.2 rfl)
          · clear hP hX hk P' X cal
            rw [if_pos hc] at hl
            have hl := Option.some.inj hl
            subst hl
            exact Wp.weak (leL.k (leL.k (leL.n (leL.n leL.z)))) (ct.2.2.1 rfl)
        · clear hP hX hk P' X cal
          rw [if_pos hc] at hl
          refine Wp.stepsG 3 (fun cal X P' hk hX hP => ?_)
          show kcall cal ix_X12_settle [.ref 76, .int q1] (st S hs) [] 0 0 (0, 0) (fun v σ' c' m' => X (127, [some (.ref 76), some (.int f1), some (.int v2), some (.int q1)], v.toList ++ [], σ', c', m'))
          obtain ⟨q5, hq5, hl⟩ := bd_some hl
          refine kcall0 rfl (hk _ _ _ _ _ _ (e_X12_settle (d + 2) S hs q1 q5 hq5 _ ?_))
          show X (127, [some (.ref 76), some (.int f1), some (.int v2), some (.int q1)], [], st q5.2 hs, 0, 0)
          refine hX _ ?_
          clear hP hX hk P' X cal
          refine Wp.stepsG 6 (fun cal X P' hk hX hP => ?_)
          show vp_in (q5.2.1 76 24) 101 ∧ X (137, [some (.ref 76), some (.int f1), some (.int v2), some (.int q1)], [], st (sA q5.2 91 (upd (q5.2.1 91) (q5.2.1 76 24).toNatClampNeg q1)) hs, 0, 0)
          obtain ⟨hg, hl⟩ := gd_some hl
          refine ⟨hg, hX _ ?_⟩
          clear hP hX hk P' X cal
          refine Wp.stepsG 15 (fun cal X P' hk hX hP => ?_)
          show X (22, [some (.ref 76), some (.int f1), some (.int 1), some (.int q1)], [], st (sI (sI (sA q5.2 91 (upd (q5.2.1 91) (q5.2.1 76 24).toNatClampNeg q1)) 76 24 ((q5.2.1 76 24) + 1)) 76 13 ((q5.2.1 76 13) + 1)) hs, 0, 0)
          refine hX _ ?_
          exact Wp.weak (leL.k (leL.k (leL.k (leL.n leL.z)))) (ih 1 (sI (sI (sA q5.2 91 (upd (q5.2.1 91) (q5.2.1 76 24).toNatClampNeg q1)) 76 24 ((q5.2.1 76 24) + 1)) 76 13 ((q5.2.1 76 13) + 1)) q hl ct)
    · clear hP hX hk P' X cal
      rw [if_neg hc] at hl
      refine Wp.stepsG 3 (fun cal X P' hk hX hP => ?_)
      show (q1 = 33 → X (43, [some (.ref 76), some (.int f1), some (.int v2), some (.int q1)], [], st S hs, 0, 0)) ∧ (¬ q1 = 33 → X (37, [some (.ref 76), some (.int f1), some (.int v2), some (.int q1)], [], st S hs, 0, 0))
      refine ⟨fun hc => hX _ ?_, fun hc => hX _ ?_⟩
      · clear hP hX hk P' X cal
        rw [if_pos hc] at hl
        refine Wp.stepsG 4 (fun cal X P' hk hX hP => ?_)
        show (¬ (S.1 76 25) = 4 → X (53, [some (.ref 76), some (.int f1), some (.int v2), some (.int q1)], [], st S hs, 0, 0)) ∧ ((S.1 76 25) = 4 → X (51, [some (.ref 76), some (.int f1), some (.int v2), some (.int q1)], [], st S hs, 0, 0))
        refine ⟨fun hc => hX _ ?_, fun hc => hX _ ?_⟩
        · clear hP hX hk P' X cal
          rw [if_neg hc] at hl
          refine Wp.stepsG 12 (fun cal X P' hk hX hP => ?_)
          show vp_in (S.1 76 24) 101 ∧ X (73, [some (.ref 76), some (.int f1), some (.int v2), some (.int q1)], [], st (sA (sI S 76 25 ((S.1 76 25) + 1)) 91 (upd (S.1 91) (S.1 76 24).toNatClampNeg q1)) hs, 0, 0)
          obtain ⟨hg, hl⟩ := gd_some hl
          refine ⟨hg, hX _ ?_⟩
          clear hP hX hk P' X cal
          refine Wp.stepsG 13 (fun cal X P' hk hX hP => ?_)
          show X (22, [some (.ref 76), some (.int f1), some (.int v2), some (.int q1)], [], st (sI (sI (sA (sI S 76 25 ((S.1 76 25) + 1)) 91 (upd (S.1 91) (S.1 76 24).toNatClampNeg q1)) 76 24 ((S.1 76 24) + 1)) 76 13 ((S.1 76 13) + 1)) hs, 0, 0)
          refine hX _ ?_
          exact Wp.weak (leL.k (leL.k (leL.k (leL.n leL.z)))) (ih v2 (sI (sI (sA (sI S 76 25 ((S.1 76 25) + 1)) 91 (upd (S.1 91) (S.1 76 24).toNatClampNeg q1)) 76 24 ((S.1 76 24) + 1)) 76 13 ((S.1 76 13) + 1)) q hl ct)
        · clear hP hX hk P' X cal
          rw [if_pos hc] at hl
          have hl := Option.some.inj hl
          subst hl
          exact Wp.weak (leL.k (leL.k (leL.n (leL.n leL.z)))) (ct.1 rfl)
      · clear hP hX hk P' X cal
        rw [if_neg hc] at hl
        refine Wp.stepsG 3 (fun cal X P' hk hX hP => ?_)
        show (¬ q1 = 40 → X (96, [some (.ref 76), some (.int f1), some (.int v2), some (.int q1)], [], st S hs, 0, 0)) ∧ (q1 = 40 → X (43, [some (.ref 76), some (.int f1), some (.int v2), some (.int q1)], [], st S hs, 0, 0))
        refine ⟨fun hc => hX _ ?_, fun hc => hX _ ?_⟩
        · clear hP hX hk P' X cal
          rw [if_neg hc] at hl
          refine Wp.stepsG 2 (fun cal X P' hk hX hP => ?_)
          show kcall cal ix_X12_takesTest [.ref 76] (st S hs) [] 0 0 (0, 0) (fun v σ' c' m' => X (100, [some (.ref 76), some (.int f1), some (.int v2), some (.int q1)], v.toList ++ [], σ', c', m'))
          obtain ⟨q6, hq6, hl⟩ := bd_some hl
          refine kcall0 rfl (hk _ _ _ _ _ _ (e_X12_takesTest (d + 0) S hs q6 hq6 _ ?_))
          show X (100, [some (.ref 76), some (.int f1), some (.int v2), some (.int q1)], [.int q6.1], st q6.2 hs, 0, 0)
          refine hX _ ?_
          clear hP hX hk P' X cal
          refine Wp.stepsG 1 (fun cal X P' hk hX hP => ?_)
          show (q6.1 = 0 → X (108, [some (.ref 76), some (.int f1), some (.int v2), some (.int q1)], [], st q6.2 hs, 0, 0)) ∧ (¬ q6.1 = 0 → X (103, [some (.ref 76), some (.int f1), some (.int v2), some (.int q1)], [], st q6.2 hs, 0, 0))
          refine ⟨fun hc => hX _ ?_, fun hc => hX _ ?_⟩
          · clear hP hX hk P' X cal
            rw [if_pos hc] at hl
            have hl := Option.some.inj hl
            subst hl
            exact Wp.weak (leL.k (leL.k (leL.n (leL.n leL.z)))) (ct.2.1 rfl)
          · clear hP hX hk P' X cal
            rw [if_neg hc] at hl
            refine Wp.stepsG 3 (fun cal X P' hk hX hP => ?_)
            show X (22, [some (.ref 76), some (.int f1), some (.int 0), some (.int q1)], [], st q6.2 hs, 0, 0)
            refine hX _ ?_
            exact Wp.weak (leL.k (leL.k (leL.k (leL.n leL.z)))) (ih 0 q6.2 q hl ct)
        · clear hP hX hk P' X cal
          rw [if_pos hc] at hl
          refine Wp.stepsG 4 (fun cal X P' hk hX hP => ?_)
          show (¬ (S.1 76 25) = 4 → X (53, [some (.ref 76), some (.int f1), some (.int v2), some (.int q1)], [], st S hs, 0, 0)) ∧ ((S.1 76 25) = 4 → X (51, [some (.ref 76), some (.int f1), some (.int v2), some (.int q1)], [], st S hs, 0, 0))
          refine ⟨fun hc => hX _ ?_, fun hc => hX _ ?_⟩
          · clear hP hX hk P' X cal
            rw [if_neg hc] at hl
            refine Wp.stepsG 12 (fun cal X P' hk hX hP => ?_)
            show vp_in (S.1 76 24) 101 ∧ X (73, [some (.ref 76), some (.int f1), some (.int v2), some (.int q1)], [], st (sA (sI S 76 25 ((S.1 76 25) + 1)) 91 (upd (S.1 91) (S.1 76 24).toNatClampNeg q1)) hs, 0, 0)
            obtain ⟨hg, hl⟩ := gd_some hl
            refine ⟨hg, hX _ ?_⟩
            clear hP hX hk P' X cal
            refine Wp.stepsG 13 (fun cal X P' hk hX hP => ?_)
            show X (22, [some (.ref 76), some (.int f1), some (.int v2), some (.int q1)], [], st (sI (sI (sA (sI S 76 25 ((S.1 76 25) + 1)) 91 (upd (S.1 91) (S.1 76 24).toNatClampNeg q1)) 76 24 ((S.1 76 24) + 1)) 76 13 ((S.1 76 13) + 1)) hs, 0, 0)
            refine hX _ ?_
            exact Wp.weak (leL.k (leL.k (leL.k (leL.n leL.z)))) (ih v2 (sI (sI (sA (sI S 76 25 ((S.1 76 25) + 1)) 91 (upd (S.1 91) (S.1 76 24).toNatClampNeg q1)) 76 24 ((S.1 76 24) + 1)) 76 13 ((S.1 76 13) + 1)) q hl ct)
          · clear hP hX hk P' X cal
            rw [if_pos hc] at hl
            have hl := Option.some.inj hl
            subst hl
            exact Wp.weak (leL.k (leL.k (leL.n (leL.n leL.z)))) (ct.1 rfl)
def r_X12_takesE (S : St) (a1 : Int32) : Option (Int32 × St) :=
  gd (¬ (a1 < 0 ∨ 60 ≤ a1.toNatClampNeg)) (
    (lp_X12_takesE_22 a1 4000 1 (sA (sI (sI S 76 24 0) 76 25 0) 88 (upd (S.1 88) a1.toNatClampNeg (S.1 76 23)))).bind fun q7 =>
    if q7.1 = 0 then
      some (0, q7.2)
    else
    if q7.1 = 1 then
      some (0, q7.2)
    else
    if q7.1 = 2 then
      some (1, q7.2)
    else
      some (0, q7.2))
set_option maxRecDepth 20000 in
set_option maxHeartbeats 4000000 in
theorem e_X12_takesE (d : Nat) (S : St) (hs : List Hr) (a1 : Int32) (v : Int32 × St) (hr : r_X12_takesE S a1 = some v) (P : Option Value → Hp → Prop) (h : P (some (.int v.1)) (st v.2 hs)) : Ev (d + 5) ix_X12_takesE 0 0 [.ref 76, .int a1] (st S hs) P := by
  refine Ev.intro (M := mi_X12_takesE) rfl (Nat.le_of_ble_eq_true rfl) ?_
  unfold r_X12_takesE at hr
  refine Wp.stepsG 12 (fun cal X P' hk hX hP => ?_)
  show vp_in a1 60 ∧ X (20, [some (.ref 76), some (.int a1), none, none], [], st (sA (sI (sI S 76 24 0) 76 25 0) 88 (upd (S.1 88) a1.toNatClampNeg (S.1 76 23))) hs, 0, 0)
  obtain ⟨hg, hr⟩ := gd_some hr
  refine ⟨hg, hX _ ?_⟩
  clear hP hX hk P' X cal
  refine Wp.stepsG 2 (fun cal X P' hk hX hP => ?_)
  show X (22, [some (.ref 76), some (.int a1), some (.int 1), none], [], st (sA (sI (sI S 76 24 0) 76 25 0) 88 (upd (S.1 88) a1.toNatClampNeg (S.1 76 23))) hs, 0, 0)
  refine hX _ ?_
  clear hP hX hk P' X cal
  obtain ⟨q7, hq7, hr⟩ := bd_some hr
  refine (e_lp_X12_takesE_22 d hs P a1 _ 1 (sA (sI (sI S 76 24 0) 76 25 0) 88 (upd (S.1 88) a1.toNatClampNeg (S.1 76 23))) q7 hq7 ?_)
  refine ⟨fun hc => ?_, fun hc => ?_, fun hc => ?_, fun hc => ?_⟩
  · have hcc := hc
    rw [if_pos hcc] at hr
    have hr := Option.some.inj hr
    subst hr
    refine Wp.stepsG 2 (fun cal X P' hk hX hP => ?_)
    exact ⟨Or.inl rfl, hP _ _ h⟩
  · have hcc := hc
    rw [if_neg (fun z => by rw [z] at hcc; exact absurd hcc (by decide))] at hr
    rw [if_pos hcc] at hr
    have hr := Option.some.inj hr
    subst hr
    refine Wp.stepsG 2 (fun cal X P' hk hX hP => ?_)
    exact ⟨Or.inl rfl, hP _ _ h⟩
  · have hcc := hc
    rw [if_neg (fun z => by rw [z] at hcc; exact absurd hcc (by decide))] at hr
    rw [if_neg (fun z => by rw [z] at hcc; exact absurd hcc (by decide))] at hr
    rw [if_pos hcc] at hr
    have hr := Option.some.inj hr
    subst hr
    refine Wp.stepsG 2 (fun cal X P' hk hX hP => ?_)
    exact ⟨Or.inr rfl, hP _ _ h⟩
  · have hcc := hc
    rw [if_neg (fun z => by rw [z] at hcc; exact absurd hcc (by decide))] at hr
    rw [if_neg (fun z => by rw [z] at hcc; exact absurd hcc (by decide))] at hr
    rw [if_neg (fun z => by rw [z] at hcc; exact absurd hcc (by decide))] at hr
    have hr := Option.some.inj hr
    subst hr
    refine Wp.stepsG 2 (fun cal X P' hk hX hP => ?_)
    exact ⟨Or.inl rfl, hP _ _ h⟩
def r_X12_takesHead (S : St) (a1 : Int32) : Option (Int32 × St) :=
  (r_X12_next S).bind fun q1 =>
  if q1 = 100 then
    gd (¬ (a1 < 0 ∨ 60 ≤ a1.toNatClampNeg)) (
      (r_X12_takesWord (sA S 86 (upd (S.1 86) a1.toNatClampNeg 2)) 7 4).bind fun q2 =>
      gd (q2.1 = 0 ∨ q2.1 = 1) (some (q2.1, q2.2)))
  else
  if q1 = 115 then
    gd (¬ (a1 < 0 ∨ 60 ≤ a1.toNatClampNeg)) (
      (r_X12_takesWord (sA S 86 (upd (S.1 86) a1.toNatClampNeg 1)) 3 4).bind fun q3 =>
      gd (q3.1 = 0 ∨ q3.1 = 1) (some (q3.1, q3.2)))
  else
    (r_X12_second S).bind fun q4 =>
    if q4 = 97 then
      gd (¬ (a1 < 0 ∨ 60 ≤ a1.toNatClampNeg)) (
        gd (¬ (a1 < 0 ∨ 60 ≤ a1.toNatClampNeg)) (
          if ((upd (S.1 86) a1.toNatClampNeg 3) a1.toNatClampNeg) = 3 then
            (r_X12_takesWord (sA S 86 (upd (S.1 86) a1.toNatClampNeg 3)) 11 4).bind fun q8 =>
            gd (q8.1 = 0 ∨ q8.1 = 1) (some (q8.1, q8.2))
          else
            (r_X12_takesWord (sA S 86 (upd (S.1 86) a1.toNatClampNeg 3)) 0 3).bind fun q7 =>
            gd (q7.1 = 0 ∨ q7.1 = 1) (some (q7.1, q7.2))))
    else
      gd (¬ (a1 < 0 ∨ 60 ≤ a1.toNatClampNeg)) (
        gd (¬ (a1 < 0 ∨ 60 ≤ a1.toNatClampNeg)) (
          if ((upd (S.1 86) a1.toNatClampNeg 0) a1.toNatClampNeg) = 3 then
            (r_X12_takesWord (sA S 86 (upd (S.1 86) a1.toNatClampNeg 0)) 11 4).bind fun q6 =>
            gd (q6.1 = 0 ∨ q6.1 = 1) (some (q6.1, q6.2))
          else
            (r_X12_takesWord (sA S 86 (upd (S.1 86) a1.toNatClampNeg 0)) 0 3).bind fun q5 =>
            gd (q5.1 = 0 ∨ q5.1 = 1) (some (q5.1, q5.2))))
set_option maxRecDepth 20000 in
set_option maxHeartbeats 4000000 in
theorem e_X12_takesHead (d : Nat) (S : St) (hs : List Hr) (a1 : Int32) (v : Int32 × St) (hr : r_X12_takesHead S a1 = some v) (P : Option Value → Hp → Prop) (h : P (some (.int v.1)) (st v.2 hs)) : Ev (d + 4) ix_X12_takesHead 0 0 [.ref 76, .int a1] (st S hs) P := by
  refine Ev.intro (M := mi_X12_takesHead) rfl (Nat.le_of_ble_eq_true rfl) ?_
  unfold r_X12_takesHead at hr
  refine Wp.stepsG 2 (fun cal X P' hk hX hP => ?_)
  show kcall cal ix_X12_next [.ref 76] (st S hs) [] 0 0 (0, 0) (fun v σ' c' m' => X (4, [some (.ref 76), some (.int a1)], v.toList ++ [], σ', c', m'))
  obtain ⟨q1, hq1, hr⟩ := bd_some hr
  refine kcall0 rfl (hk _ _ _ _ _ _ (e_X12_next (d + 2) S hs q1 hq1 _ ?_))
  show X (4, [some (.ref 76), some (.int a1)], [.int q1], st S hs, 0, 0)
  refine hX _ ?_
  clear hP hX hk P' X cal
  refine Wp.stepsG 1 (fun cal X P' hk hX hP => ?_)
  show (q1 = 100 → X (46, [some (.ref 76), some (.int a1)], [], st S hs, 0, 0)) ∧ (¬ q1 = 100 → (q1 = 115 → X (32, [some (.ref 76), some (.int a1)], [], st S hs, 0, 0)) ∧ (¬ q1 = 115 → X (61, [some (.ref 76), some (.int a1)], [], st S hs, 0, 0)))
  refine ⟨fun hc => hX _ ?_, fun hc => ?_⟩
  · clear hP hX hk P' X cal
    rw [if_pos hc] at hr
    refine Wp.stepsG 5 (fun cal X P' hk hX hP => ?_)
    show vp_in a1 60 ∧ X (53, [some (.ref 76), some (.int a1)], [], st (sA S 86 (upd (S.1 86) a1.toNatClampNeg 2)) hs, 0, 0)
    obtain ⟨hg, hr⟩ := gd_some hr
    refine ⟨hg, hX _ ?_⟩
    clear hP hX hk P' X cal
    refine Wp.stepsG 4 (fun cal X P' hk hX hP => ?_)
    show kcall cal ix_X12_takesWord [.ref 76, .int 7, .int 4] (st (sA S 86 (upd (S.1 86) a1.toNatClampNeg 2)) hs) [] 0 0 (0, 0) (fun v σ' c' m' => X (60, [some (.ref 76), some (.int a1)], v.toList ++ [], σ', c', m'))
    obtain ⟨q2, hq2, hr⟩ := bd_some hr
    refine kcall0 rfl (hk _ _ _ _ _ _ (e_X12_takesWord (d + 0) (sA S 86 (upd (S.1 86) a1.toNatClampNeg 2)) hs 7 4 q2 hq2 _ ?_))
    show X (60, [some (.ref 76), some (.int a1)], [.int q2.1], st q2.2 hs, 0, 0)
    refine hX _ ?_
    clear hP hX hk P' X cal
    obtain ⟨hb, hr⟩ := gd_some hr
    have hr := Option.some.inj hr
    subst hr
    refine Wp.stepsG 1 (fun cal X P' hk hX hP => ?_)
    exact ⟨hb, hP _ _ h⟩
  · rw [if_neg hc] at hr
    refine ⟨fun hc => hX _ ?_, fun hc => hX _ ?_⟩
    · clear hP hX hk P' X cal
      rw [if_pos hc] at hr
      refine Wp.stepsG 5 (fun cal X P' hk hX hP => ?_)
      show vp_in a1 60 ∧ X (39, [some (.ref 76), some (.int a1)], [], st (sA S 86 (upd (S.1 86) a1.toNatClampNeg 1)) hs, 0, 0)
      obtain ⟨hg, hr⟩ := gd_some hr
      refine ⟨hg, hX _ ?_⟩
      clear hP hX hk P' X cal
      refine Wp.stepsG 4 (fun cal X P' hk hX hP => ?_)
      show kcall cal ix_X12_takesWord [.ref 76, .int 3, .int 4] (st (sA S 86 (upd (S.1 86) a1.toNatClampNeg 1)) hs) [] 0 0 (0, 0) (fun v σ' c' m' => X (45, [some (.ref 76), some (.int a1)], v.toList ++ [], σ', c', m'))
      obtain ⟨q3, hq3, hr⟩ := bd_some hr
      refine kcall0 rfl (hk _ _ _ _ _ _ (e_X12_takesWord (d + 0) (sA S 86 (upd (S.1 86) a1.toNatClampNeg 1)) hs 3 4 q3 hq3 _ ?_))
      show X (45, [some (.ref 76), some (.int a1)], [.int q3.1], st q3.2 hs, 0, 0)
      refine hX _ ?_
      clear hP hX hk P' X cal
      obtain ⟨hb, hr⟩ := gd_some hr
      have hr := Option.some.inj hr
      subst hr
      refine Wp.stepsG 1 (fun cal X P' hk hX hP => ?_)
      exact ⟨hb, hP _ _ h⟩
    · rw [if_neg hc] at hr
      clear hP hX hk P' X cal
      refine Wp.stepsG 5 (fun cal X P' hk hX hP => ?_)
      show kcall cal ix_X12_second [.ref 76] (st S hs) [.int a1, .ref 86] 0 0 (0, 0) (fun v σ' c' m' => X (70, [some (.ref 76), some (.int a1)], v.toList ++ [.int a1, .ref 86], σ', c', m'))
      obtain ⟨q4, hq4, hr⟩ := bd_some hr
      refine kcall0 rfl (hk _ _ _ _ _ _ (e_X12_second (d + 2) S hs q4 hq4 _ ?_))
      show X (70, [some (.ref 76), some (.int a1)], [.int q4, .int a1, .ref 86], st S hs, 0, 0)
      refine hX _ ?_
      clear hP hX hk P' X cal
      refine Wp.stepsG 2 (fun cal X P' hk hX hP => ?_)
      show (¬ q4 = 97 → X (79, [some (.ref 76), some (.int a1)], [.int a1, .ref 86], st S hs, 0, 0)) ∧ (q4 = 97 → X (75, [some (.ref 76), some (.int a1)], [.int a1, .ref 86], st S hs, 0, 0))
      refine ⟨fun hc => hX _ ?_, fun hc => hX _ ?_⟩
      · clear hP hX hk P' X cal
        rw [if_neg hc] at hr
        refine Wp.stepsG 2 (fun cal X P' hk hX hP => ?_)
        show vp_in a1 60 ∧ X (81, [some (.ref 76), some (.int a1)], [], st (sA S 86 (upd (S.1 86) a1.toNatClampNeg 0)) hs, 0, 0)
        obtain ⟨hg, hr⟩ := gd_some hr
        refine ⟨hg, hX _ ?_⟩
        clear hP hX hk P' X cal
        refine Wp.stepsG 4 (fun cal X P' hk hX hP => ?_)
        show vp_in a1 60 ∧ X (87, [some (.ref 76), some (.int a1)], [.int ((upd (S.1 86) a1.toNatClampNeg 0) a1.toNatClampNeg)], st (sA S 86 (upd (S.1 86) a1.toNatClampNeg 0)) hs, 0, 0)
        obtain ⟨hg, hr⟩ := gd_some hr
        refine ⟨hg, hX _ ?_⟩
        clear hP hX hk P' X cal
        refine Wp.stepsG 2 (fun cal X P' hk hX hP => ?_)
        show (¬ ((upd (S.1 86) a1.toNatClampNeg 0) a1.toNatClampNeg) = 3 → X (101, [some (.ref 76), some (.int a1)], [], st (sA S 86 (upd (S.1 86) a1.toNatClampNeg 0)) hs, 0, 0)) ∧ (((upd (S.1 86) a1.toNatClampNeg 0) a1.toNatClampNeg) = 3 → X (91, [some (.ref 76), some (.int a1)], [], st (sA S 86 (upd (S.1 86) a1.toNatClampNeg 0)) hs, 0, 0))
        refine ⟨fun hc => hX _ ?_, fun hc => hX _ ?_⟩
        · clear hP hX hk P' X cal
          rw [if_neg hc] at hr
          refine Wp.stepsG 4 (fun cal X P' hk hX hP => ?_)
          show kcall cal ix_X12_takesWord [.ref 76, .int 0, .int 3] (st (sA S 86 (upd (S.1 86) a1.toNatClampNeg 0)) hs) [] 0 0 (0, 0) (fun v σ' c' m' => X (107, [some (.ref 76), some (.int a1)], v.toList ++ [], σ', c', m'))
          obtain ⟨q5, hq5, hr⟩ := bd_some hr
          refine kcall0 rfl (hk _ _ _ _ _ _ (e_X12_takesWord (d + 0) (sA S 86 (upd (S.1 86) a1.toNatClampNeg 0)) hs 0 3 q5 hq5 _ ?_))
          show X (107, [some (.ref 76), some (.int a1)], [.int q5.1], st q5.2 hs, 0, 0)
          refine hX _ ?_
          clear hP hX hk P' X cal
          obtain ⟨hb, hr⟩ := gd_some hr
          have hr := Option.some.inj hr
          subst hr
          refine Wp.stepsG 1 (fun cal X P' hk hX hP => ?_)
          exact ⟨hb, hP _ _ h⟩
        · clear hP hX hk P' X cal
          rw [if_pos hc] at hr
          refine Wp.stepsG 4 (fun cal X P' hk hX hP => ?_)
          show kcall cal ix_X12_takesWord [.ref 76, .int 11, .int 4] (st (sA S 86 (upd (S.1 86) a1.toNatClampNeg 0)) hs) [] 0 0 (0, 0) (fun v σ' c' m' => X (98, [some (.ref 76), some (.int a1)], v.toList ++ [], σ', c', m'))
          obtain ⟨q6, hq6, hr⟩ := bd_some hr
          refine kcall0 rfl (hk _ _ _ _ _ _ (e_X12_takesWord (d + 0) (sA S 86 (upd (S.1 86) a1.toNatClampNeg 0)) hs 11 4 q6 hq6 _ ?_))
          show X (98, [some (.ref 76), some (.int a1)], [.int q6.1], st q6.2 hs, 0, 0)
          refine hX _ ?_
          clear hP hX hk P' X cal
          obtain ⟨hb, hr⟩ := gd_some hr
          have hr := Option.some.inj hr
          subst hr
          refine Wp.stepsG 2 (fun cal X P' hk hX hP => ?_)
          exact ⟨hb, hP _ _ h⟩
      · clear hP hX hk P' X cal
        rw [if_pos hc] at hr
        refine Wp.stepsG 3 (fun cal X P' hk hX hP => ?_)
        show vp_in a1 60 ∧ X (81, [some (.ref 76), some (.int a1)], [], st (sA S 86 (upd (S.1 86) a1.toNatClampNeg 3)) hs, 0, 0)
        obtain ⟨hg, hr⟩ := gd_some hr
        refine ⟨hg, hX _ ?_⟩
        clear hP hX hk P' X cal
        refine Wp.stepsG 4 (fun cal X P' hk hX hP => ?_)
        show vp_in a1 60 ∧ X (87, [some (.ref 76), some (.int a1)], [.int ((upd (S.1 86) a1.toNatClampNeg 3) a1.toNatClampNeg)], st (sA S 86 (upd (S.1 86) a1.toNatClampNeg 3)) hs, 0, 0)
        obtain ⟨hg, hr⟩ := gd_some hr
        refine ⟨hg, hX _ ?_⟩
        clear hP hX hk P' X cal
        refine Wp.stepsG 2 (fun cal X P' hk hX hP => ?_)
        show (¬ ((upd (S.1 86) a1.toNatClampNeg 3) a1.toNatClampNeg) = 3 → X (101, [some (.ref 76), some (.int a1)], [], st (sA S 86 (upd (S.1 86) a1.toNatClampNeg 3)) hs, 0, 0)) ∧ (((upd (S.1 86) a1.toNatClampNeg 3) a1.toNatClampNeg) = 3 → X (91, [some (.ref 76), some (.int a1)], [], st (sA S 86 (upd (S.1 86) a1.toNatClampNeg 3)) hs, 0, 0))
        refine ⟨fun hc => hX _ ?_, fun hc => hX _ ?_⟩
        · clear hP hX hk P' X cal
          rw [if_neg hc] at hr
          refine Wp.stepsG 4 (fun cal X P' hk hX hP => ?_)
          show kcall cal ix_X12_takesWord [.ref 76, .int 0, .int 3] (st (sA S 86 (upd (S.1 86) a1.toNatClampNeg 3)) hs) [] 0 0 (0, 0) (fun v σ' c' m' => X (107, [some (.ref 76), some (.int a1)], v.toList ++ [], σ', c', m'))
          obtain ⟨q7, hq7, hr⟩ := bd_some hr
          refine kcall0 rfl (hk _ _ _ _ _ _ (e_X12_takesWord (d + 0) (sA S 86 (upd (S.1 86) a1.toNatClampNeg 3)) hs 0 3 q7 hq7 _ ?_))
          show X (107, [some (.ref 76), some (.int a1)], [.int q7.1], st q7.2 hs, 0, 0)
          refine hX _ ?_
          clear hP hX hk P' X cal
          obtain ⟨hb, hr⟩ := gd_some hr
          have hr := Option.some.inj hr
          subst hr
          refine Wp.stepsG 1 (fun cal X P' hk hX hP => ?_)
          exact ⟨hb, hP _ _ h⟩
        · clear hP hX hk P' X cal
          rw [if_pos hc] at hr
          refine Wp.stepsG 4 (fun cal X P' hk hX hP => ?_)
          show kcall cal ix_X12_takesWord [.ref 76, .int 11, .int 4] (st (sA S 86 (upd (S.1 86) a1.toNatClampNeg 3)) hs) [] 0 0 (0, 0) (fun v σ' c' m' => X (98, [some (.ref 76), some (.int a1)], v.toList ++ [], σ', c', m'))
          obtain ⟨q8, hq8, hr⟩ := bd_some hr
          refine kcall0 rfl (hk _ _ _ _ _ _ (e_X12_takesWord (d + 0) (sA S 86 (upd (S.1 86) a1.toNatClampNeg 3)) hs 11 4 q8 hq8 _ ?_))
          show X (98, [some (.ref 76), some (.int a1)], [.int q8.1], st q8.2 hs, 0, 0)
          refine hX _ ?_
          clear hP hX hk P' X cal
          obtain ⟨hb, hr⟩ := gd_some hr
          have hr := Option.some.inj hr
          subst hr
          refine Wp.stepsG 2 (fun cal X P' hk hX hP => ?_)
          exact ⟨hb, hP _ _ h⟩
def r_X12_takesClause (S : St) (a1 : Int32) : Option (Int32 × St) :=
  (r_X12_takesHead S a1).bind fun q1 =>
  if q1.1 = 0 then
    some (0, q1.2)
  else
    (r_X12_takesNumber q1.2).bind fun q2 =>
    if q2.1 = 0 then
      some (0, q2.2)
    else
      gd (¬ (a1 < 0 ∨ 60 ≤ a1.toNatClampNeg)) (
        gd (¬ (a1 < 0 ∨ 60 ≤ a1.toNatClampNeg)) (
          if 2 ≤ ((q2.2.1 86) a1.toNatClampNeg) then
            some (1, sA q2.2 87 (upd (q2.2.1 87) a1.toNatClampNeg (q2.2.1 76 14)))
          else
            (r_X12_takes (sA q2.2 87 (upd (q2.2.1 87) a1.toNatClampNeg (q2.2.1 76 14))) 32).bind fun q3 =>
            if q3.1 = 0 then
              some (0, q3.2)
            else
              (r_X12_takesE q3.2 a1).bind fun q4 =>
              if q4.1 = 0 then
                some (0, q4.2)
              else
                some (1, q4.2)))
set_option maxRecDepth 20000 in
set_option maxHeartbeats 4000000 in
theorem e_X12_takesClause (d : Nat) (S : St) (hs : List Hr) (a1 : Int32) (v : Int32 × St) (hr : r_X12_takesClause S a1 = some v) (P : Option Value → Hp → Prop) (h : P (some (.int v.1)) (st v.2 hs)) : Ev (d + 6) ix_X12_takesClause 0 0 [.ref 76, .int a1] (st S hs) P := by
  refine Ev.intro (M := mi_X12_takesClause) rfl (Nat.le_of_ble_eq_true rfl) ?_
  unfold r_X12_takesClause at hr
  refine Wp.stepsG 3 (fun cal X P' hk hX hP => ?_)
  show kcall cal ix_X12_takesHead [.ref 76, .int a1] (st S hs) [] 0 0 (0, 0) (fun v σ' c' m' => X (5, [some (.ref 76), some (.int a1)], v.toList ++ [], σ', c', m'))
  obtain ⟨q1, hq1, hr⟩ := bd_some hr
  refine kcall0 rfl (hk _ _ _ _ _ _ (e_X12_takesHead (d + 1) S hs a1 q1 hq1 _ ?_))
  show X (5, [some (.ref 76), some (.int a1)], [.int q1.1], st q1.2 hs, 0, 0)
  refine hX _ ?_
  clear hP hX hk P' X cal
  refine Wp.stepsG 1 (fun cal X P' hk hX hP => ?_)
  show (q1.1 = 0 → X (15, [some (.ref 76), some (.int a1)], [], st q1.2 hs, 0, 0)) ∧ (¬ q1.1 = 0 → X (8, [some (.ref 76), some (.int a1)], [], st q1.2 hs, 0, 0))
  refine ⟨fun hc => hX _ ?_, fun hc => hX _ ?_⟩
  · clear hP hX hk P' X cal
    rw [if_pos hc] at hr
    have hr := Option.some.inj hr
    subst hr
    refine Wp.stepsG 2 (fun cal X P' hk hX hP => ?_)
    exact ⟨Or.inl rfl, hP _ _ h⟩
  · clear hP hX hk P' X cal
    rw [if_neg hc] at hr
    refine Wp.stepsG 2 (fun cal X P' hk hX hP => ?_)
    show kcall cal ix_X12_takesNumber [.ref 76] (st q1.2 hs) [] 0 0 (0, 0) (fun v σ' c' m' => X (12, [some (.ref 76), some (.int a1)], v.toList ++ [], σ', c', m'))
    obtain ⟨q2, hq2, hr⟩ := bd_some hr
    refine kcall0 rfl (hk _ _ _ _ _ _ (e_X12_takesNumber (d + 2) q1.2 hs q2 hq2 _ ?_))
    show X (12, [some (.ref 76), some (.int a1)], [.int q2.1], st q2.2 hs, 0, 0)
    refine hX _ ?_
    clear hP hX hk P' X cal
    refine Wp.stepsG 1 (fun cal X P' hk hX hP => ?_)
    show (¬ q2.1 = 0 → X (17, [some (.ref 76), some (.int a1)], [], st q2.2 hs, 0, 0)) ∧ (q2.1 = 0 → X (15, [some (.ref 76), some (.int a1)], [], st q2.2 hs, 0, 0))
    refine ⟨fun hc => hX _ ?_, fun hc => hX _ ?_⟩
    · clear hP hX hk P' X cal
      rw [if_neg hc] at hr
      refine Wp.stepsG 6 (fun cal X P' hk hX hP => ?_)
      show vp_in a1 60 ∧ X (27, [some (.ref 76), some (.int a1)], [], st (sA q2.2 87 (upd (q2.2.1 87) a1.toNatClampNeg (q2.2.1 76 14))) hs, 0, 0)
      obtain ⟨hg, hr⟩ := gd_some hr
      refine ⟨hg, hX _ ?_⟩
      clear hP hX hk P' X cal
      refine Wp.stepsG 4 (fun cal X P' hk hX hP => ?_)
      show vp_in a1 60 ∧ X (33, [some (.ref 76), some (.int a1)], [.int ((q2.2.1 86) a1.toNatClampNeg)], st (sA q2.2 87 (upd (q2.2.1 87) a1.toNatClampNeg (q2.2.1 76 14))) hs, 0, 0)
      obtain ⟨hg, hr⟩ := gd_some hr
      refine ⟨hg, hX _ ?_⟩
      clear hP hX hk P' X cal
      refine Wp.stepsG 2 (fun cal X P' hk hX hP => ?_)
      show (2 ≤ ((q2.2.1 86) a1.toNatClampNeg) → X (54, [some (.ref 76), some (.int a1)], [], st (sA q2.2 87 (upd (q2.2.1 87) a1.toNatClampNeg (q2.2.1 76 14))) hs, 0, 0)) ∧ (¬ 2 ≤ ((q2.2.1 86) a1.toNatClampNeg) → X (37, [some (.ref 76), some (.int a1)], [], st (sA q2.2 87 (upd (q2.2.1 87) a1.toNatClampNeg (q2.2.1 76 14))) hs, 0, 0))
      refine ⟨fun hc => hX _ ?_, fun hc => hX _ ?_⟩
      · clear hP hX hk P' X cal
        rw [if_pos hc] at hr
        have hr := Option.some.inj hr
        subst hr
        refine Wp.stepsG 3 (fun cal X P' hk hX hP => ?_)
        exact ⟨Or.inr rfl, hP _ _ h⟩
      · clear hP hX hk P' X cal
        rw [if_neg hc] at hr
        refine Wp.stepsG 3 (fun cal X P' hk hX hP => ?_)
        show kcall cal ix_X12_takes [.ref 76, .int 32] (st (sA q2.2 87 (upd (q2.2.1 87) a1.toNatClampNeg (q2.2.1 76 14))) hs) [] 0 0 (0, 0) (fun v σ' c' m' => X (43, [some (.ref 76), some (.int a1)], v.toList ++ [], σ', c', m'))
        obtain ⟨q3, hq3, hr⟩ := bd_some hr
        refine kcall0 rfl (hk _ _ _ _ _ _ (e_X12_takes (d + 3) (sA q2.2 87 (upd (q2.2.1 87) a1.toNatClampNeg (q2.2.1 76 14))) hs 32 q3 hq3 _ ?_))
        show X (43, [some (.ref 76), some (.int a1)], [.int q3.1], st q3.2 hs, 0, 0)
        refine hX _ ?_
        clear hP hX hk P' X cal
        refine Wp.stepsG 1 (fun cal X P' hk hX hP => ?_)
        show (q3.1 = 0 → X (58, [some (.ref 76), some (.int a1)], [], st q3.2 hs, 0, 0)) ∧ (¬ q3.1 = 0 → X (46, [some (.ref 76), some (.int a1)], [], st q3.2 hs, 0, 0))
        refine ⟨fun hc => hX _ ?_, fun hc => hX _ ?_⟩
        · clear hP hX hk P' X cal
          rw [if_pos hc] at hr
          have hr := Option.some.inj hr
          subst hr
          refine Wp.stepsG 2 (fun cal X P' hk hX hP => ?_)
          exact ⟨Or.inl rfl, hP _ _ h⟩
        · clear hP hX hk P' X cal
          rw [if_neg hc] at hr
          refine Wp.stepsG 3 (fun cal X P' hk hX hP => ?_)
          show kcall cal ix_X12_takesE [.ref 76, .int a1] (st q3.2 hs) [] 0 0 (0, 0) (fun v σ' c' m' => X (51, [some (.ref 76), some (.int a1)], v.toList ++ [], σ', c', m'))
          obtain ⟨q4, hq4, hr⟩ := bd_some hr
          refine kcall0 rfl (hk _ _ _ _ _ _ (e_X12_takesE (d + 0) q3.2 hs a1 q4 hq4 _ ?_))
          show X (51, [some (.ref 76), some (.int a1)], [.int q4.1], st q4.2 hs, 0, 0)
          refine hX _ ?_
          clear hP hX hk P' X cal
          refine Wp.stepsG 1 (fun cal X P' hk hX hP => ?_)
          show (q4.1 = 0 → X (58, [some (.ref 76), some (.int a1)], [], st q4.2 hs, 0, 0)) ∧ (¬ q4.1 = 0 → X (54, [some (.ref 76), some (.int a1)], [], st q4.2 hs, 0, 0))
          refine ⟨fun hc => hX _ ?_, fun hc => hX _ ?_⟩
          · clear hP hX hk P' X cal
            rw [if_pos hc] at hr
            have hr := Option.some.inj hr
            subst hr
            refine Wp.stepsG 2 (fun cal X P' hk hX hP => ?_)
            exact ⟨Or.inl rfl, hP _ _ h⟩
          · clear hP hX hk P' X cal
            rw [if_neg hc] at hr
            have hr := Option.some.inj hr
            subst hr
            refine Wp.stepsG 3 (fun cal X P' hk hX hP => ?_)
            exact ⟨Or.inr rfl, hP _ _ h⟩
    · clear hP hX hk P' X cal
      rw [if_pos hc] at hr
      have hr := Option.some.inj hr
      subst hr
      refine Wp.stepsG 2 (fun cal X P' hk hX hP => ?_)
      exact ⟨Or.inl rfl, hP _ _ h⟩
def lp_X12_goesText_15 (f1 : Int32) : Nat → Int32 → St → Option (Nat × St)
  | 0, _, _ => none
  | n + 1, v2, S =>
    (r_X12_takesClause S (((10 : Int32) * f1) + v2)).bind fun q1 =>
    if q1.1 = 0 then
      some (0, q1.2)
    else
      gd (¬ (f1 < 0 ∨ 6 ≤ f1.toNatClampNeg)) (
        if (q1.2.1 76 13) = (q1.2.1 76 12) then
          some (1, sA q1.2 85 (upd (q1.2.1 85) f1.toNatClampNeg (v2 + 1)))
        else
          if (v2 + 1) = 10 then
            some (2, sA q1.2 85 (upd (q1.2.1 85) f1.toNatClampNeg (v2 + 1)))
          else
            (r_X12_takes (sA q1.2 85 (upd (q1.2.1 85) f1.toNatClampNeg (v2 + 1))) 59).bind fun q2 =>
            if q2.1 = 0 then
              some (2, q2.2)
            else
              lp_X12_goesText_15 f1 n (v2 + 1) q2.2)
set_option maxRecDepth 20000 in
set_option maxHeartbeats 4000000 in
theorem e_lp_X12_goesText_15 (d : Nat) (hs : List Hr) (P : Option Value → Hp → Prop) (f1 : Int32) : ∀ (n : Nat) (v2 : Int32) (S : St) (q : Nat × St), lp_X12_goesText_15 f1 n v2 S = some q → (q.1 = 0 → WM mi_X12_goesText (d + 6) P 28 [some (.ref 76), some (.int f1), none] [] (st q.2 hs)) ∧ (q.1 = 1 → WM mi_X12_goesText (d + 6) P 51 [some (.ref 76), some (.int f1), none] [] (st q.2 hs)) ∧ (q.1 = 2 → WM mi_X12_goesText (d + 6) P 68 [some (.ref 76), some (.int f1), none] [] (st q.2 hs)) → WM mi_X12_goesText (d + 6) P 15 [some (.ref 76), some (.int f1), some (.int v2)] [] (st S hs) := by
  intro n
  induction n with
  | zero =>
    intro v2 S q hl
    cases hl
  | succ n ih =>
    intro v2 S q hl ct
    rw [lp_X12_goesText_15] at hl
    refine Wp.stepsG 7 (fun cal X P' hk hX hP => ?_)
    show kcall cal ix_X12_takesClause [.ref 76, .int (((10 : Int32) * f1) + v2)] (st S hs) [] 0 0 (0, 0) (fun v σ' c' m' => X (25, [some (.ref 76), some (.int f1), some (.int v2)], v.toList ++ [], σ', c', m'))
    obtain ⟨q1, hq1, hl⟩ := bd_some hl
    refine kcall0 rfl (hk _ _ _ _ _ _ (e_X12_takesClause (d + 0) S hs (((10 : Int32) * f1) + v2) q1 hq1 _ ?_))
    show X (25, [some (.ref 76), some (.int f1), some (.int v2)], [.int q1.1], st q1.2 hs, 0, 0)
    refine hX _ ?_
    clear hP hX hk P' X cal
    refine Wp.stepsG 1 (fun cal X P' hk hX hP => ?_)
    show (¬ q1.1 = 0 → X (30, [some (.ref 76), some (.int f1), some (.int v2)], [], st q1.2 hs, 0, 0)) ∧ (q1.1 = 0 → X (28, [some (.ref 76), some (.int f1), some (.int v2)], [], st q1.2 hs, 0, 0))
    refine ⟨fun hc => hX _ ?_, fun hc => hX _ ?_⟩
    · clear hP hX hk P' X cal
      rw [if_neg hc] at hl
      refine Wp.stepsG 6 (fun cal X P' hk hX hP => ?_)
      show vp_in f1 6 ∧ X (40, [some (.ref 76), some (.int f1), some (.int (v2 + 1))], [], st (sA q1.2 85 (upd (q1.2.1 85) f1.toNatClampNeg (v2 + 1))) hs, 0, 0)
      obtain ⟨hg, hl⟩ := gd_some hl
      refine ⟨hg, hX _ ?_⟩
      clear hP hX hk P' X cal
      refine Wp.stepsG 5 (fun cal X P' hk hX hP => ?_)
      show (¬ (q1.2.1 76 13) = (q1.2.1 76 12) → X (53, [some (.ref 76), some (.int f1), some (.int (v2 + 1))], [], st (sA q1.2 85 (upd (q1.2.1 85) f1.toNatClampNeg (v2 + 1))) hs, 0, 0)) ∧ ((q1.2.1 76 13) = (q1.2.1 76 12) → X (51, [some (.ref 76), some (.int f1), some (.int (v2 + 1))], [], st (sA q1.2 85 (upd (q1.2.1 85) f1.toNatClampNeg (v2 + 1))) hs, 0, 0))
      refine ⟨fun hc => hX _ ?_, fun hc => hX _ ?_⟩
      · clear hP hX hk P' X cal
        rw [if_neg hc] at hl
        refine Wp.stepsG 3 (fun cal X P' hk hX hP => ?_)
        show ((v2 + 1) = 10 → X (68, [some (.ref 76), some (.int f1), some (.int (v2 + 1))], [], st (sA q1.2 85 (upd (q1.2.1 85) f1.toNatClampNeg (v2 + 1))) hs, 0, 0)) ∧ (¬ (v2 + 1) = 10 → X (59, [some (.ref 76), some (.int f1), some (.int (v2 + 1))], [], st (sA q1.2 85 (upd (q1.2.1 85) f1.toNatClampNeg (v2 + 1))) hs, 0, 0))
        refine ⟨fun hc => hX _ ?_, fun hc => hX _ ?_⟩
        · clear hP hX hk P' X cal
          rw [if_pos hc] at hl
          have hl := Option.some.inj hl
          subst hl
          exact Wp.weak (leL.k (leL.k (leL.n leL.z))) (ct.2.2 rfl)
        · clear hP hX hk P' X cal
          rw [if_neg hc] at hl
          refine Wp.stepsG 3 (fun cal X P' hk hX hP => ?_)
          show kcall cal ix_X12_takes [.ref 76, .int 59] (st (sA q1.2 85 (upd (q1.2.1 85) f1.toNatClampNeg (v2 + 1))) hs) [] 0 0 (0, 0) (fun v σ' c' m' => X (65, [some (.ref 76), some (.int f1), some (.int (v2 + 1))], v.toList ++ [], σ', c', m'))
          obtain ⟨q2, hq2, hl⟩ := bd_some hl
          refine kcall0 rfl (hk _ _ _ _ _ _ (e_X12_takes (d + 4) (sA q1.2 85 (upd (q1.2.1 85) f1.toNatClampNeg (v2 + 1))) hs 59 q2 hq2 _ ?_))
          show X (65, [some (.ref 76), some (.int f1), some (.int (v2 + 1))], [.int q2.1], st q2.2 hs, 0, 0)
          refine hX _ ?_
          clear hP hX hk P' X cal
          refine Wp.stepsG 1 (fun cal X P' hk hX hP => ?_)
          show (¬ q2.1 = 0 → X (15, [some (.ref 76), some (.int f1), some (.int (v2 + 1))], [], st q2.2 hs, 0, 0)) ∧ (q2.1 = 0 → X (68, [some (.ref 76), some (.int f1), some (.int (v2 + 1))], [], st q2.2 hs, 0, 0))
          refine ⟨fun hc => hX _ ?_, fun hc => hX _ ?_⟩
          · clear hP hX hk P' X cal
            rw [if_neg hc] at hl
            exact (ih (v2 + 1) q2.2 q hl ct)
          · clear hP hX hk P' X cal
            rw [if_pos hc] at hl
            have hl := Option.some.inj hl
            subst hl
            exact Wp.weak (leL.k (leL.k (leL.n leL.z))) (ct.2.2 rfl)
      · clear hP hX hk P' X cal
        rw [if_pos hc] at hl
        have hl := Option.some.inj hl
        subst hl
        exact Wp.weak (leL.k (leL.k (leL.n leL.z))) (ct.2.1 rfl)
    · clear hP hX hk P' X cal
      rw [if_pos hc] at hl
      have hl := Option.some.inj hl
      subst hl
      exact Wp.weak (leL.k (leL.k (leL.n leL.z))) (ct.1 rfl)
def r_X12_goesText (S : St) (a1 : Int32) : Option (Int32 × St) :=
  (lp_X12_goesText_15 a1 4000 0 (sI (sI S 76 13 0) 76 23 ((100 : Int32) * a1))).bind fun q3 =>
  if q3.1 = 0 then
    some (0, q3.2)
  else
  if q3.1 = 1 then
    some (1, q3.2)
  else
    some (0, q3.2)
set_option maxRecDepth 20000 in
set_option maxHeartbeats 4000000 in
theorem e_X12_goesText (d : Nat) (S : St) (hs : List Hr) (a1 : Int32) (v : Int32 × St) (hr : r_X12_goesText S a1 = some v) (P : Option Value → Hp → Prop) (h : P (some (.int v.1)) (st v.2 hs)) : Ev (d + 7) ix_X12_goesText 0 0 [.ref 76, .int a1] (st S hs) P := by
  refine Ev.intro (M := mi_X12_goesText) rfl (Nat.le_of_ble_eq_true rfl) ?_
  unfold r_X12_goesText at hr
  refine Wp.stepsG 10 (fun cal X P' hk hX hP => ?_)
  show X (15, [some (.ref 76), some (.int a1), some (.int 0)], [], st (sI (sI S 76 13 0) 76 23 ((100 : Int32) * a1)) hs, 0, 0)
  refine hX _ ?_
  clear hP hX hk P' X cal
  obtain ⟨q3, hq3, hr⟩ := bd_some hr
  refine (e_lp_X12_goesText_15 d hs P a1 _ 0 (sI (sI S 76 13 0) 76 23 ((100 : Int32) * a1)) q3 hq3 ?_)
  refine ⟨fun hc => ?_, fun hc => ?_, fun hc => ?_⟩
  · have hcc := hc
    rw [if_pos hcc] at hr
    have hr := Option.some.inj hr
    subst hr
    refine Wp.stepsG 2 (fun cal X P' hk hX hP => ?_)
    exact ⟨Or.inl rfl, hP _ _ h⟩
  · have hcc := hc
    rw [if_neg (fun z => by rw [z] at hcc; exact absurd hcc (by decide))] at hr
    rw [if_pos hcc] at hr
    have hr := Option.some.inj hr
    subst hr
    refine Wp.stepsG 2 (fun cal X P' hk hX hP => ?_)
    exact ⟨Or.inr rfl, hP _ _ h⟩
  · have hcc := hc
    rw [if_neg (fun z => by rw [z] at hcc; exact absurd hcc (by decide))] at hr
    rw [if_neg (fun z => by rw [z] at hcc; exact absurd hcc (by decide))] at hr
    have hr := Option.some.inj hr
    subst hr
    refine Wp.stepsG 2 (fun cal X P' hk hX hP => ?_)
    exact ⟨Or.inl rfl, hP _ _ h⟩
def r_X12_house (S : St) : Option (Int32 × St) :=
  if (S.1 76 10) = 6 then
    some ((-4), S)
  else
    (r_X12_goesText S (S.1 76 10)).bind fun q1 =>
    if q1.1 = 0 then
      some (((-10) : Int32) - (q1.2.1 76 13), sI q1.2 76 12 0)
    else
      some (q1.2.1 76 10, sI (sI (sI q1.2 76 12 0) 76 11 (q1.2.1 76 10)) 76 10 ((q1.2.1 76 10) + 1))
set_option maxRecDepth 20000 in
set_option maxHeartbeats 4000000 in
theorem e_X12_house (d : Nat) (S : St) (hs : List Hr) (v : Int32 × St) (hr : r_X12_house S = some v) (P : Option Value → Hp → Prop) (h : P (some (.int v.1)) (st v.2 hs)) : Ev (d + 8) ix_X12_house 0 0 [.ref 76] (st S hs) P := by
  refine Ev.intro (M := mi_X12_house) rfl (Nat.le_of_ble_eq_true rfl) ?_
  unfold r_X12_house at hr
  refine Wp.stepsG 4 (fun cal X P' hk hX hP => ?_)
  show (¬ (S.1 76 10) = 6 → X (12, [some (.ref 76), none], [], st S hs, 0, 0)) ∧ ((S.1 76 10) = 6 → X (9, [some (.ref 76), none], [], st S hs, 0, 0))
  refine ⟨fun hc => hX _ ?_, fun hc => hX _ ?_⟩
  · clear hP hX hk P' X cal
    rw [if_neg hc] at hr
    refine Wp.stepsG 4 (fun cal X P' hk hX hP => ?_)
    show kcall cal ix_X12_goesText [.ref 76, .int (S.1 76 10)] (st S hs) [] 0 0 (0, 0) (fun v σ' c' m' => X (20, [some (.ref 76), none], v.toList ++ [], σ', c', m'))
    obtain ⟨q1, hq1, hr⟩ := bd_some hr
    refine kcall0 rfl (hk _ _ _ _ _ _ (e_X12_goesText (d + 0) S hs (S.1 76 10) q1 hq1 _ ?_))
    show X (20, [some (.ref 76), none], [.int q1.1], st q1.2 hs, 0, 0)
    refine hX _ ?_
    clear hP hX hk P' X cal
    refine Wp.stepsG 6 (fun cal X P' hk hX hP => ?_)
    show (¬ q1.1 = 0 → X (38, [some (.ref 76), some (.int q1.1)], [], st (sI q1.2 76 12 0) hs, 0, 0)) ∧ (q1.1 = 0 → X (30, [some (.ref 76), some (.int q1.1)], [], st (sI q1.2 76 12 0) hs, 0, 0))
    refine ⟨fun hc => hX _ ?_, fun hc => hX _ ?_⟩
    · clear hP hX hk P' X cal
      rw [if_neg hc] at hr
      have hr := Option.some.inj hr
      subst hr
      refine Wp.stepsG 13 (fun cal X P' hk hX hP => ?_)
      exact hP _ _ h
    · clear hP hX hk P' X cal
      rw [if_pos hc] at hr
      have hr := Option.some.inj hr
      subst hr
      refine Wp.stepsG 5 (fun cal X P' hk hX hP => ?_)
      exact hP _ _ h
  · clear hP hX hk P' X cal
    rw [if_pos hc] at hr
    have hr := Option.some.inj hr
    subst hr
    refine Wp.stepsG 2 (fun cal X P' hk hX hP => ?_)
    exact hP _ _ h
def r_X12_begin (S : St) : Int32 :=
  if 0 ≤ (S.1 76 11) then
    (10 : Int32) * (S.1 76 11)
  else
    0
set_option maxRecDepth 20000 in
set_option maxHeartbeats 4000000 in
theorem e_X12_begin (d : Nat) (S : St) (hs : List Hr) (P : Option Value → Hp → Prop) (h : P (some (.int (r_X12_begin S))) (st S hs)) : Ev (d + 1) ix_X12_begin 0 0 [.ref 76] (st S hs) P := by
  refine Ev.intro (M := mi_X12_begin) rfl (Nat.le_of_ble_eq_true rfl) ?_
  unfold r_X12_begin at h
  refine Wp.stepsG 3 (fun cal X P' hk hX hP => ?_)
  show (0 ≤ (S.1 76 11) → X (11, [some (.ref 76)], [], st S hs, 0, 0)) ∧ (¬ 0 ≤ (S.1 76 11) → X (7, [some (.ref 76)], [], st S hs, 0, 0))
  refine ⟨fun hc => hX _ ?_, fun hc => hX _ ?_⟩
  · clear hP hX hk P' X cal
    rw [if_pos hc] at h
    refine Wp.stepsG 5 (fun cal X P' hk hX hP => ?_)
    exact hP _ _ h
  · clear hP hX hk P' X cal
    rw [if_neg hc] at h
    refine Wp.stepsG 3 (fun cal X P' hk hX hP => ?_)
    exact hP _ _ h
def r_X12_behind (S : St) : Option Int32 :=
  if 0 ≤ (S.1 76 11) then
    gd (¬ ((S.1 76 11) < 0 ∨ 6 ≤ (S.1 76 11).toNatClampNeg)) (
      some (((10 : Int32) * (S.1 76 11)) + ((S.1 85) (S.1 76 11).toNatClampNeg)))
  else
    some 0
set_option maxRecDepth 20000 in
set_option maxHeartbeats 4000000 in
theorem e_X12_behind (d : Nat) (S : St) (hs : List Hr) (v : Int32) (hr : r_X12_behind S = some v) (P : Option Value → Hp → Prop) (h : P (some (.int v)) (st S hs)) : Ev (d + 1) ix_X12_behind 0 0 [.ref 76] (st S hs) P := by
  refine Ev.intro (M := mi_X12_behind) rfl (Nat.le_of_ble_eq_true rfl) ?_
  unfold r_X12_behind at hr
  refine Wp.stepsG 3 (fun cal X P' hk hX hP => ?_)
  show (0 ≤ (S.1 76 11) → X (11, [some (.ref 76)], [], st S hs, 0, 0)) ∧ (¬ 0 ≤ (S.1 76 11) → X (7, [some (.ref 76)], [], st S hs, 0, 0))
  refine ⟨fun hc => hX _ ?_, fun hc => hX _ ?_⟩
  · clear hP hX hk P' X cal
    rw [if_pos hc] at hr
    refine Wp.stepsG 9 (fun cal X P' hk hX hP => ?_)
    show vp_in (S.1 76 11) 6 ∧ X (27, [some (.ref 76)], [.int ((S.1 85) (S.1 76 11).toNatClampNeg), .int ((10 : Int32) * (S.1 76 11))], st S hs, 0, 0)
    obtain ⟨hg, hr⟩ := gd_some hr
    refine ⟨hg, hX _ ?_⟩
    clear hP hX hk P' X cal
    have hr := Option.some.inj hr
    subst hr
    refine Wp.stepsG 2 (fun cal X P' hk hX hP => ?_)
    exact hP _ _ h
  · clear hP hX hk P' X cal
    rw [if_neg hc] at hr
    have hr := Option.some.inj hr
    subst hr
    refine Wp.stepsG 3 (fun cal X P' hk hX hP => ?_)
    exact hP _ _ h
def lp_X12_lastOf_8 (S : St) (f1 : Int32) : Nat → Int32 → Int32 → Option (Int32)
  | 0, _, _ => none
  | n + 1, v3, v4 =>
    (r_X12_behind S).bind fun q1 =>
    if q1 ≤ v4 then
      some v3
    else
      gd (¬ (v4 < 0 ∨ 60 ≤ v4.toNatClampNeg)) (
        if ((S.1 86) v4.toNatClampNeg) = f1 then
          gd (¬ (v4 < 0 ∨ 60 ≤ v4.toNatClampNeg)) (
            lp_X12_lastOf_8 S f1 n ((S.1 87) v4.toNatClampNeg) (v4 + 1))
        else
          lp_X12_lastOf_8 S f1 n v3 (v4 + 1))
set_option maxRecDepth 20000 in
set_option maxHeartbeats 4000000 in
theorem e_lp_X12_lastOf_8 (d : Nat) (hs : List Hr) (P : Option Value → Hp → Prop) (S : St) (f1 : Int32) : ∀ (n : Nat) (v3 : Int32) (v4 : Int32) (q : Int32), lp_X12_lastOf_8 S f1 n v3 v4 = some q → (WM mi_X12_lastOf (d + 1) P 46 [some (.ref 76), some (.int f1), none, some (.int q), none] [] (st S hs)) → WM mi_X12_lastOf (d + 1) P 8 [some (.ref 76), some (.int f1), none, some (.int v3), some (.int v4)] [] (st S hs) := by
  intro n
  induction n with
  | zero =>
    intro v3 v4 q hl
    cases hl
  | succ n ih =>
    intro v3 v4 q hl ct
    rw [lp_X12_lastOf_8] at hl
    refine Wp.stepsG 3 (fun cal X P' hk hX hP => ?_)
    show kcall cal ix_X12_behind [.ref 76] (st S hs) [.int v4] 0 0 (0, 0) (fun v σ' c' m' => X (14, [some (.ref 76), some (.int f1), none, some (.int v3), some (.int v4)], v.toList ++ [.int v4], σ', c', m'))
    obtain ⟨q1, hq1, hl⟩ := bd_some hl
    refine kcall0 rfl (hk _ _ _ _ _ _ (e_X12_behind (d + 0) S hs q1 hq1 _ ?_))
    show X (14, [some (.ref 76), some (.int f1), none, some (.int v3), some (.int v4)], [.int q1, .int v4], st S hs, 0, 0)
    refine hX _ ?_
    clear hP hX hk P' X cal
    refine Wp.stepsG 1 (fun cal X P' hk hX hP => ?_)
    show (q1 ≤ v4 → X (46, [some (.ref 76), some (.int f1), none, some (.int v3), some (.int v4)], [], st S hs, 0, 0)) ∧ (¬ q1 ≤ v4 → X (17, [some (.ref 76), some (.int f1), none, some (.int v3), some (.int v4)], [], st S hs, 0, 0))
    refine ⟨fun hc => hX _ ?_, fun hc => hX _ ?_⟩
    · clear hP hX hk P' X cal
      rw [if_pos hc] at hl
      have hl := Option.some.inj hl
      subst hl
      exact Wp.weak (leL.k (leL.k (leL.k (leL.k (leL.n leL.z))))) (ct)
    · clear hP hX hk P' X cal
      rw [if_neg hc] at hl
      refine Wp.stepsG 4 (fun cal X P' hk hX hP => ?_)
      show vp_in v4 60 ∧ X (24, [some (.ref 76), some (.int f1), none, some (.int v3), some (.int v4)], [.int ((S.1 86) v4.toNatClampNeg)], st S hs, 0, 0)
      obtain ⟨hg, hl⟩ := gd_some hl
      refine ⟨hg, hX _ ?_⟩
      clear hP hX hk P' X cal
      refine Wp.stepsG 2 (fun cal X P' hk hX hP => ?_)
      show (¬ ((S.1 86) v4.toNatClampNeg) = f1 → X (38, [some (.ref 76), some (.int f1), none, some (.int v3), some (.int v4)], [], st S hs, 0, 0)) ∧ (((S.1 86) v4.toNatClampNeg) = f1 → X (28, [some (.ref 76), some (.int f1), none, some (.int v3), some (.int v4)], [], st S hs, 0, 0))
      refine ⟨fun hc => hX _ ?_, fun hc => hX _ ?_⟩
      · clear hP hX hk P' X cal
        rw [if_neg hc] at hl
        refine Wp.stepsG 4 (fun cal X P' hk hX hP => ?_)
        show X (8, [some (.ref 76), some (.int f1), none, some (.int v3), some (.int (v4 + 1))], [], st S hs, 0, 0)
        refine hX _ ?_
        exact (ih v3 (v4 + 1) q hl ct)
      · clear hP hX hk P' X cal
        rw [if_pos hc] at hl
        refine Wp.stepsG 4 (fun cal X P' hk hX hP => ?_)
        show vp_in v4 60 ∧ X (35, [some (.ref 76), some (.int f1), none, some (.int v3), some (.int v4)], [.int ((S.1 87) v4.toNatClampNeg)], st S hs, 0, 0)
        obtain ⟨hg, hl⟩ := gd_some hl
        refine ⟨hg, hX _ ?_⟩
        clear hP hX hk P' X cal
        refine Wp.stepsG 4 (fun cal X P' hk hX hP => ?_)
        show X (8, [some (.ref 76), some (.int f1), none, some (.int ((S.1 87) v4.toNatClampNeg)), some (.int (v4 + 1))], [], st S hs, 0, 0)
        refine hX _ ?_
        exact (ih ((S.1 87) v4.toNatClampNeg) (v4 + 1) q hl ct)
def r_X12_lastOf (S : St) (a1 : Int32) (a2 : Int32) : Option Int32 :=
  (lp_X12_lastOf_8 S a1 4000 a2 (r_X12_begin S)).bind fun q2 =>
    some q2
set_option maxRecDepth 20000 in
set_option maxHeartbeats 4000000 in
theorem e_X12_lastOf (d : Nat) (S : St) (hs : List Hr) (a1 : Int32) (a2 : Int32) (v : Int32) (hr : r_X12_lastOf S a1 a2 = some v) (P : Option Value → Hp → Prop) (h : P (some (.int v)) (st S hs)) : Ev (d + 2) ix_X12_lastOf 0 0 [.ref 76, .int a1, .int a2] (st S hs) P := by
  refine Ev.intro (M := mi_X12_lastOf) rfl (Nat.le_of_ble_eq_true rfl) ?_
  unfold r_X12_lastOf at hr
  refine Wp.stepsG 4 (fun cal X P' hk hX hP => ?_)
  show kcall cal ix_X12_begin [.ref 76] (st S hs) [] 0 0 (0, 0) (fun v σ' c' m' => X (6, [some (.ref 76), some (.int a1), some (.int a2), some (.int a2), none], v.toList ++ [], σ', c', m'))
  refine kcall0 rfl (hk _ _ _ _ _ _ (e_X12_begin (d + 0) S hs _ ?_))
  show X (6, [some (.ref 76), some (.int a1), some (.int a2), some (.int a2), none], [.int (r_X12_begin S)], st S hs, 0, 0)
  refine hX _ ?_
  clear hP hX hk P' X cal
  refine Wp.stepsG 1 (fun cal X P' hk hX hP => ?_)
  show X (8, [some (.ref 76), some (.int a1), some (.int a2), some (.int a2), some (.int (r_X12_begin S))], [], st S hs, 0, 0)
  refine hX _ ?_
  clear hP hX hk P' X cal
  obtain ⟨q2, hq2, hr⟩ := bd_some hr
  refine Wp.weak (leL.k (leL.k (leL.n (leL.k (leL.k leL.z))))) (e_lp_X12_lastOf_8 d hs P S a1 _ a2 (r_X12_begin S) q2 hq2 ?_)
  have hr := Option.some.inj hr
  subst hr
  refine Wp.stepsG 2 (fun cal X P' hk hX hP => ?_)
  exact hP _ _ h
